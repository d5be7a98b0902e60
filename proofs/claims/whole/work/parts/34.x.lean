theorem q_len {d M pc pc' n : Nat} {z : Int} {Q : rQ} {ls : mx_L} {st : List mx_V} {S : rS} (j : Nat) {a v : Int} (e : mx_kd M pc = (.invokedynamic 0, n, z)) (hj : Nat.blt j 8 = true) (ha : -3 - (j : Int) = a) (hv : ((mx_st.getD j "").length : Int) = v) (hd : Nat.ble 1 d = true) (hcat : Nat.ble ((st.map mx_cat).sum) 8 = true) (hpc : pc + 3 = pc') (K : RS d M Q pc' ls (.inl v :: st) S) : RS d M Q pc ls (.inr (.inr a) :: st) S := by
  subst ha
  refine r_callE (y := 300) (k := 4) (d0 := 1) (as := [.inr (.inr (-3 - (j : Int)))]) (w := some (.inl v)) (S2 := S) e rfl ?_ (Nat.le_of_ble_eq_true hd) rfl rfl (Nat.le_of_ble_eq_true hcat) (fun _ q => absurd rfl q) hpc rfl K
  unfold CS mx_call
  rw [if_pos rfl]
  exact ⟨j, Nat.le_of_ble_eq_true hj, rfl, S, rfl, by rw [hv], rfl⟩
theorem q_chr {d M pc pc' n : Nat} {z : Int} {Q : rQ} {ls : mx_L} {st : List mx_V} {S : rS} (j k : Nat) {a i v : Int} (e : mx_kd M pc = (.invokedynamic 1, n, z)) (hj : Nat.blt j 8 = true) (hk : Nat.blt k (mx_st.getD j "").length = true) (ha : -3 - (j : Int) = a) (hi : (k : Int) = i) (hv : ((((mx_st.getD j "").toList.getD k 'a').toNat : Nat) : Int) = v) (hd : Nat.ble 5 d = true) (hcat : Nat.ble ((st.map mx_cat).sum) 8 = true) (hpc : pc + 3 = pc') (K : RS d M Q pc' ls (.inl v :: st) S) : RS d M Q pc ls (.inl i :: .inr (.inr a) :: st) S := by
  subst ha; subst hi
  refine r_callE (y := 301) (k := 4) (d0 := 5) (as := [.inr (.inr (-3 - (j : Int))), .inl (k : Int)]) (w := some (.inl v)) (S2 := S) e rfl ?_ (Nat.le_of_ble_eq_true hd) rfl rfl (Nat.le_of_ble_eq_true hcat) (fun _ q => absurd rfl q) hpc rfl K
  unfold CS mx_call
  rw [if_neg (by decide), if_pos rfl]
  exact ⟨Nat.le_refl _, j, k, Nat.le_of_ble_eq_true hj, Nat.le_of_ble_eq_true hk, rfl, S, rfl, by rw [hv], rfl⟩
theorem bdp_5n_0 : ∀ n : Nat, n < 20 → bd_lo (5 + (n : Int)) 0 = 0 ∧ bd_hi (5 + (n : Int)) 0 = 7 := by decide +kernel
theorem bdp_5_0 {c : Int} (h : 0 ≤ c ∧ c < 20) : bd_lo (5 + c) 0 = 0 ∧ bd_hi (5 + c) 0 = 7 := by
  obtain ⟨n, rfl⟩ := Int.eq_ofNat_of_zero_le h.1
  exact bdp_5n_0 n (by omega)
theorem bdo_5_0 {S : rS} (hB : Bd S) {c : Int} (h : 0 ≤ c ∧ c < 20) : 0 ≤ S (5 + c) 0 ∧ S (5 + c) 0 ≤ 7 := by
  have q := hB (5 + c) 0
  rw [(bdp_5_0 h).1, (bdp_5_0 h).2] at q
  exact q
theorem bdp_5n_1 : ∀ n : Nat, n < 20 → bd_lo (5 + (n : Int)) 1 = 0 ∧ bd_hi (5 + (n : Int)) 1 = 99 := by decide +kernel
theorem bdp_5_1 {c : Int} (h : 0 ≤ c ∧ c < 20) : bd_lo (5 + c) 1 = 0 ∧ bd_hi (5 + c) 1 = 99 := by
  obtain ⟨n, rfl⟩ := Int.eq_ofNat_of_zero_le h.1
  exact bdp_5n_1 n (by omega)
theorem bdo_5_1 {S : rS} (hB : Bd S) {c : Int} (h : 0 ≤ c ∧ c < 20) : 0 ≤ S (5 + c) 1 ∧ S (5 + c) 1 ≤ 99 := by
  have q := hB (5 + c) 1
  rw [(bdp_5_1 h).1, (bdp_5_1 h).2] at q
  exact q
theorem bdp_5n_2 : ∀ n : Nat, n < 20 → bd_lo (5 + (n : Int)) 2 = 0 ∧ bd_hi (5 + (n : Int)) 2 = 9 := by decide +kernel
theorem bdp_5_2 {c : Int} (h : 0 ≤ c ∧ c < 20) : bd_lo (5 + c) 2 = 0 ∧ bd_hi (5 + c) 2 = 9 := by
  obtain ⟨n, rfl⟩ := Int.eq_ofNat_of_zero_le h.1
  exact bdp_5n_2 n (by omega)
theorem bdo_5_2 {S : rS} (hB : Bd S) {c : Int} (h : 0 ≤ c ∧ c < 20) : 0 ≤ S (5 + c) 2 ∧ S (5 + c) 2 ≤ 9 := by
  have q := hB (5 + c) 2
  rw [(bdp_5_2 h).1, (bdp_5_2 h).2] at q
  exact q
theorem bdp_5n_3 : ∀ n : Nat, n < 20 → bd_lo (5 + (n : Int)) 3 = 0 ∧ bd_hi (5 + (n : Int)) 3 = 30 := by decide +kernel
theorem bdp_5_3 {c : Int} (h : 0 ≤ c ∧ c < 20) : bd_lo (5 + c) 3 = 0 ∧ bd_hi (5 + c) 3 = 30 := by
  obtain ⟨n, rfl⟩ := Int.eq_ofNat_of_zero_le h.1
  exact bdp_5n_3 n (by omega)
theorem bdo_5_3 {S : rS} (hB : Bd S) {c : Int} (h : 0 ≤ c ∧ c < 20) : 0 ≤ S (5 + c) 3 ∧ S (5 + c) 3 ≤ 30 := by
  have q := hB (5 + c) 3
  rw [(bdp_5_3 h).1, (bdp_5_3 h).2] at q
  exact q
theorem bdp_5n_4 : ∀ n : Nat, n < 20 → bd_lo (5 + (n : Int)) 4 = 0 ∧ bd_hi (5 + (n : Int)) 4 = 200 := by decide +kernel
theorem bdp_5_4 {c : Int} (h : 0 ≤ c ∧ c < 20) : bd_lo (5 + c) 4 = 0 ∧ bd_hi (5 + c) 4 = 200 := by
  obtain ⟨n, rfl⟩ := Int.eq_ofNat_of_zero_le h.1
  exact bdp_5n_4 n (by omega)
theorem bdo_5_4 {S : rS} (hB : Bd S) {c : Int} (h : 0 ≤ c ∧ c < 20) : 0 ≤ S (5 + c) 4 ∧ S (5 + c) 4 ≤ 200 := by
  have q := hB (5 + c) 4
  rw [(bdp_5_4 h).1, (bdp_5_4 h).2] at q
  exact q
theorem bdp_5n_5 : ∀ n : Nat, n < 20 → bd_lo (5 + (n : Int)) 5 = 0 ∧ bd_hi (5 + (n : Int)) 5 = 8 := by decide +kernel
theorem bdp_5_5 {c : Int} (h : 0 ≤ c ∧ c < 20) : bd_lo (5 + c) 5 = 0 ∧ bd_hi (5 + c) 5 = 8 := by
  obtain ⟨n, rfl⟩ := Int.eq_ofNat_of_zero_le h.1
  exact bdp_5n_5 n (by omega)
theorem bdo_5_5 {S : rS} (hB : Bd S) {c : Int} (h : 0 ≤ c ∧ c < 20) : 0 ≤ S (5 + c) 5 ∧ S (5 + c) 5 ≤ 8 := by
  have q := hB (5 + c) 5
  rw [(bdp_5_5 h).1, (bdp_5_5 h).2] at q
  exact q
theorem c_X8_isWord_0 {S : rS} (hB : Bd S) : CS 6 179 [.inr (.inr 1), .inr (.inr (-3))] S (fun r' S' => r' = some (.inl (bi (S 1 4 = 1 ∧ S 1 3 - S 1 2 = 5 ∧ S 2 (S 1 2 + 0) = 116 ∧ S 2 (S 1 2 + 1) = 104 ∧ S 2 (S 1 2 + 2) = 111 ∧ S 2 (S 1 2 + 3) = 114 ∧ S 2 (S 1 2 + 4) = 110))) ∧ S' = S) := by
  refine RS.beg (ls := [some (.inr (.inr 1)), some (.inr (.inr (-3))), none]) rfl rfl rfl rfl rfl ?_
  have b12 : 0 ≤ S 1 2 ∧ S 1 2 ≤ 200 := hB 1 2
  have b13 : 0 ≤ S 1 3 ∧ S 1 3 ≤ 200 := hB 1 3
  refine r_aload (pc' := 1) rfl rfl rfl ?_
  refine r_getv (pc' := 4) (v := (S 1 4)) rfl rfl (Or.inl rfl) rfl rfl ?_
  have b1 : 0 ≤ S 1 4 ∧ S 1 4 ≤ 3 := hB 1 4
  refine r_const (pc' := 5) rfl rfl ?_
  by_cases h2 : (S 1 4) = 1
  · refine r_icmp_ne0 (pc' := 8) rfl rfl (by omega) (by omega) ?_
    refine r_aload (pc' := 9) rfl rfl rfl ?_
    refine r_getv (pc' := 12) (v := (S 1 3)) rfl rfl (Or.inl rfl) rfl rfl ?_
    have b3 : 0 ≤ S 1 3 ∧ S 1 3 ≤ 200 := hB 1 3
    refine r_aload (pc' := 13) rfl rfl rfl ?_
    refine r_getv (pc' := 16) (v := (S 1 2)) rfl rfl (Or.inl rfl) rfl rfl ?_
    have b4 : 0 ≤ S 1 2 ∧ S 1 2 ≤ 200 := hB 1 2
    refine r_isub (pc' := 17) rfl rfl ?_
    refine r_aload (pc' := 18) rfl rfl rfl ?_
    refine q_len 0 (v := 5) rfl rfl (by decide) rfl rfl rfl rfl ?_
    by_cases h5 : ((S 1 3) - (S 1 2)) = 5
    · refine r_icmp_eq1 (pc' := 26) rfl rfl (by omega) (by omega) ?_
      refine r_const (pc' := 27) rfl rfl ?_
      refine r_istore (pc' := 28) (ls' := [some (.inr (.inr 1)), some (.inr (.inr (-3))), some (.inl 0)]) rfl rfl rfl rfl ?_
      refine r_iload (pc' := 29) rfl rfl rfl ?_
      refine r_aload (pc' := 30) rfl rfl rfl ?_
      refine q_len 0 (v := 5) rfl rfl (by decide) rfl rfl rfl rfl ?_
      refine r_icmp_ge0 (pc' := 36) rfl rfl (by decide) (by decide) ?_
      refine r_aload (pc' := 37) rfl rfl rfl ?_
      refine r_getr (pc' := 40) (v := 2) rfl rfl rfl rfl rfl ?_
      refine r_aload (pc' := 41) rfl rfl rfl ?_
      refine r_getv (pc' := 44) (v := (S 1 2)) rfl rfl (Or.inl rfl) rfl rfl ?_
      refine r_iload (pc' := 45) rfl rfl rfl ?_
      refine r_iadd (pc' := 46) rfl rfl ?_
      refine r_aldv (pc' := 47) (v := (S 2 ((S 1 2) + 0))) 200 rfl rfl rfl (by omega) rfl ?_
      have b6 : 0 ≤ S 2 ((S 1 2) + 0) ∧ S 2 ((S 1 2) + 0) ≤ 255 := hB 2 ((S 1 2) + 0)
      refine r_aload (pc' := 48) rfl rfl rfl ?_
      refine r_iload (pc' := 49) rfl rfl rfl ?_
      refine q_chr 0 0 (v := 116) rfl rfl rfl (by decide) rfl rfl rfl rfl rfl ?_
      by_cases h7 : (S 2 ((S 1 2) + 0)) = 116
      · refine r_icmp_eq1 (pc' := 57) rfl rfl (by omega) (by omega) ?_
        refine r_iinc (pc' := 60) (ls' := [some (.inr (.inr 1)), some (.inr (.inr (-3))), some (.inl 1)]) rfl rfl rfl rfl rfl ?_
        refine r_goto (pc' := 28) rfl rfl ?_
        refine r_iload (pc' := 29) rfl rfl rfl ?_
        refine r_aload (pc' := 30) rfl rfl rfl ?_
        refine q_len 0 (v := 5) rfl rfl (by decide) rfl rfl rfl rfl ?_
        refine r_icmp_ge0 (pc' := 36) rfl rfl (by decide) (by decide) ?_
        refine r_aload (pc' := 37) rfl rfl rfl ?_
        refine r_getr (pc' := 40) (v := 2) rfl rfl rfl rfl rfl ?_
        refine r_aload (pc' := 41) rfl rfl rfl ?_
        refine r_getv (pc' := 44) (v := (S 1 2)) rfl rfl (Or.inl rfl) rfl rfl ?_
        refine r_iload (pc' := 45) rfl rfl rfl ?_
        refine r_iadd (pc' := 46) rfl rfl ?_
        refine r_aldv (pc' := 47) (v := (S 2 ((S 1 2) + 1))) 200 rfl rfl rfl (by omega) rfl ?_
        have b8 : 0 ≤ S 2 ((S 1 2) + 1) ∧ S 2 ((S 1 2) + 1) ≤ 255 := hB 2 ((S 1 2) + 1)
        refine r_aload (pc' := 48) rfl rfl rfl ?_
        refine r_iload (pc' := 49) rfl rfl rfl ?_
        refine q_chr 0 1 (v := 104) rfl rfl rfl (by decide) rfl rfl rfl rfl rfl ?_
        by_cases h9 : (S 2 ((S 1 2) + 1)) = 104
        · refine r_icmp_eq1 (pc' := 57) rfl rfl (by omega) (by omega) ?_
          refine r_iinc (pc' := 60) (ls' := [some (.inr (.inr 1)), some (.inr (.inr (-3))), some (.inl 2)]) rfl rfl rfl rfl rfl ?_
          refine r_goto (pc' := 28) rfl rfl ?_
          refine r_iload (pc' := 29) rfl rfl rfl ?_
          refine r_aload (pc' := 30) rfl rfl rfl ?_
          refine q_len 0 (v := 5) rfl rfl (by decide) rfl rfl rfl rfl ?_
          refine r_icmp_ge0 (pc' := 36) rfl rfl (by decide) (by decide) ?_
          refine r_aload (pc' := 37) rfl rfl rfl ?_
          refine r_getr (pc' := 40) (v := 2) rfl rfl rfl rfl rfl ?_
          refine r_aload (pc' := 41) rfl rfl rfl ?_
          refine r_getv (pc' := 44) (v := (S 1 2)) rfl rfl (Or.inl rfl) rfl rfl ?_
          refine r_iload (pc' := 45) rfl rfl rfl ?_
          refine r_iadd (pc' := 46) rfl rfl ?_
          refine r_aldv (pc' := 47) (v := (S 2 ((S 1 2) + 2))) 200 rfl rfl rfl (by omega) rfl ?_
          have b10 : 0 ≤ S 2 ((S 1 2) + 2) ∧ S 2 ((S 1 2) + 2) ≤ 255 := hB 2 ((S 1 2) + 2)
          refine r_aload (pc' := 48) rfl rfl rfl ?_
          refine r_iload (pc' := 49) rfl rfl rfl ?_
          refine q_chr 0 2 (v := 111) rfl rfl rfl (by decide) rfl rfl rfl rfl rfl ?_
          by_cases h11 : (S 2 ((S 1 2) + 2)) = 111
          · refine r_icmp_eq1 (pc' := 57) rfl rfl (by omega) (by omega) ?_
            refine r_iinc (pc' := 60) (ls' := [some (.inr (.inr 1)), some (.inr (.inr (-3))), some (.inl 3)]) rfl rfl rfl rfl rfl ?_
            refine r_goto (pc' := 28) rfl rfl ?_
            refine r_iload (pc' := 29) rfl rfl rfl ?_
            refine r_aload (pc' := 30) rfl rfl rfl ?_
            refine q_len 0 (v := 5) rfl rfl (by decide) rfl rfl rfl rfl ?_
            refine r_icmp_ge0 (pc' := 36) rfl rfl (by decide) (by decide) ?_
            refine r_aload (pc' := 37) rfl rfl rfl ?_
            refine r_getr (pc' := 40) (v := 2) rfl rfl rfl rfl rfl ?_
            refine r_aload (pc' := 41) rfl rfl rfl ?_
            refine r_getv (pc' := 44) (v := (S 1 2)) rfl rfl (Or.inl rfl) rfl rfl ?_
            refine r_iload (pc' := 45) rfl rfl rfl ?_
            refine r_iadd (pc' := 46) rfl rfl ?_
            refine r_aldv (pc' := 47) (v := (S 2 ((S 1 2) + 3))) 200 rfl rfl rfl (by omega) rfl ?_
            have b12 : 0 ≤ S 2 ((S 1 2) + 3) ∧ S 2 ((S 1 2) + 3) ≤ 255 := hB 2 ((S 1 2) + 3)
            refine r_aload (pc' := 48) rfl rfl rfl ?_
            refine r_iload (pc' := 49) rfl rfl rfl ?_
            refine q_chr 0 3 (v := 114) rfl rfl rfl (by decide) rfl rfl rfl rfl rfl ?_
            by_cases h13 : (S 2 ((S 1 2) + 3)) = 114
            · refine r_icmp_eq1 (pc' := 57) rfl rfl (by omega) (by omega) ?_
              refine r_iinc (pc' := 60) (ls' := [some (.inr (.inr 1)), some (.inr (.inr (-3))), some (.inl 4)]) rfl rfl rfl rfl rfl ?_
              refine r_goto (pc' := 28) rfl rfl ?_
              refine r_iload (pc' := 29) rfl rfl rfl ?_
              refine r_aload (pc' := 30) rfl rfl rfl ?_
              refine q_len 0 (v := 5) rfl rfl (by decide) rfl rfl rfl rfl ?_
              refine r_icmp_ge0 (pc' := 36) rfl rfl (by decide) (by decide) ?_
              refine r_aload (pc' := 37) rfl rfl rfl ?_
              refine r_getr (pc' := 40) (v := 2) rfl rfl rfl rfl rfl ?_
              refine r_aload (pc' := 41) rfl rfl rfl ?_
              refine r_getv (pc' := 44) (v := (S 1 2)) rfl rfl (Or.inl rfl) rfl rfl ?_
              refine r_iload (pc' := 45) rfl rfl rfl ?_
              refine r_iadd (pc' := 46) rfl rfl ?_
              refine r_aldv (pc' := 47) (v := (S 2 ((S 1 2) + 4))) 200 rfl rfl rfl (by omega) rfl ?_
              have b14 : 0 ≤ S 2 ((S 1 2) + 4) ∧ S 2 ((S 1 2) + 4) ≤ 255 := hB 2 ((S 1 2) + 4)
              refine r_aload (pc' := 48) rfl rfl rfl ?_
              refine r_iload (pc' := 49) rfl rfl rfl ?_
              refine q_chr 0 4 (v := 110) rfl rfl rfl (by decide) rfl rfl rfl rfl rfl ?_
              by_cases h15 : (S 2 ((S 1 2) + 4)) = 110
              · refine r_icmp_eq1 (pc' := 57) rfl rfl (by omega) (by omega) ?_
                refine r_iinc (pc' := 60) (ls' := [some (.inr (.inr 1)), some (.inr (.inr (-3))), some (.inl 5)]) rfl rfl rfl rfl rfl ?_
                refine r_goto (pc' := 28) rfl rfl ?_
                refine r_iload (pc' := 29) rfl rfl rfl ?_
                refine r_aload (pc' := 30) rfl rfl rfl ?_
                refine q_len 0 (v := 5) rfl rfl (by decide) rfl rfl rfl rfl ?_
                refine r_icmp_ge1 (pc' := 63) rfl rfl (by decide) (by decide) ?_
                refine r_const (pc' := 64) rfl rfl ?_
                refine q_zret rfl rfl rfl (by omega) ?_
                exact ⟨bi_t (by omega), rfl⟩
              · refine r_icmp_eq0 (pc' := 55) rfl rfl (by omega) (by omega) ?_
                refine r_const (pc' := 56) rfl rfl ?_
                refine q_zret rfl rfl rfl (by omega) ?_
                exact ⟨bi_f (by omega), rfl⟩
            · refine r_icmp_eq0 (pc' := 55) rfl rfl (by omega) (by omega) ?_
              refine r_const (pc' := 56) rfl rfl ?_
              refine q_zret rfl rfl rfl (by omega) ?_
              exact ⟨bi_f (by omega), rfl⟩
          · refine r_icmp_eq0 (pc' := 55) rfl rfl (by omega) (by omega) ?_
            refine r_const (pc' := 56) rfl rfl ?_
            refine q_zret rfl rfl rfl (by omega) ?_
            exact ⟨bi_f (by omega), rfl⟩
        · refine r_icmp_eq0 (pc' := 55) rfl rfl (by omega) (by omega) ?_
          refine r_const (pc' := 56) rfl rfl ?_
          refine q_zret rfl rfl rfl (by omega) ?_
          exact ⟨bi_f (by omega), rfl⟩
      · refine r_icmp_eq0 (pc' := 55) rfl rfl (by omega) (by omega) ?_
        refine r_const (pc' := 56) rfl rfl ?_
        refine q_zret rfl rfl rfl (by omega) ?_
        exact ⟨bi_f (by omega), rfl⟩
    · refine r_icmp_eq0 (pc' := 24) rfl rfl (by omega) (by omega) ?_
      refine r_const (pc' := 25) rfl rfl ?_
      refine q_zret rfl rfl rfl (by omega) ?_
      exact ⟨bi_f (by omega), rfl⟩
  · refine r_icmp_ne1 (pc' := 24) rfl rfl (by omega) (by omega) ?_
    refine r_const (pc' := 25) rfl rfl ?_
    refine q_zret rfl rfl rfl (by omega) ?_
    exact ⟨bi_f (by omega), rfl⟩
theorem c_X8_isWord_1 {S : rS} (hB : Bd S) : CS 6 179 [.inr (.inr 1), .inr (.inr (-4))] S (fun r' S' => r' = some (.inl (bi (S 1 4 = 1 ∧ S 1 3 - S 1 2 = 5 ∧ S 2 (S 1 2 + 0) = 104 ∧ S 2 (S 1 2 + 1) = 111 ∧ S 2 (S 1 2 + 2) = 108 ∧ S 2 (S 1 2 + 3) = 108 ∧ S 2 (S 1 2 + 4) = 121))) ∧ S' = S) := by
  refine RS.beg (ls := [some (.inr (.inr 1)), some (.inr (.inr (-4))), none]) rfl rfl rfl rfl rfl ?_
  have b12 : 0 ≤ S 1 2 ∧ S 1 2 ≤ 200 := hB 1 2
  have b13 : 0 ≤ S 1 3 ∧ S 1 3 ≤ 200 := hB 1 3
  refine r_aload (pc' := 1) rfl rfl rfl ?_
  refine r_getv (pc' := 4) (v := (S 1 4)) rfl rfl (Or.inl rfl) rfl rfl ?_
  have b1 : 0 ≤ S 1 4 ∧ S 1 4 ≤ 3 := hB 1 4
  refine r_const (pc' := 5) rfl rfl ?_
  by_cases h2 : (S 1 4) = 1
  · refine r_icmp_ne0 (pc' := 8) rfl rfl (by omega) (by omega) ?_
    refine r_aload (pc' := 9) rfl rfl rfl ?_
    refine r_getv (pc' := 12) (v := (S 1 3)) rfl rfl (Or.inl rfl) rfl rfl ?_
    have b3 : 0 ≤ S 1 3 ∧ S 1 3 ≤ 200 := hB 1 3
    refine r_aload (pc' := 13) rfl rfl rfl ?_
    refine r_getv (pc' := 16) (v := (S 1 2)) rfl rfl (Or.inl rfl) rfl rfl ?_
    have b4 : 0 ≤ S 1 2 ∧ S 1 2 ≤ 200 := hB 1 2
    refine r_isub (pc' := 17) rfl rfl ?_
    refine r_aload (pc' := 18) rfl rfl rfl ?_
    refine q_len 1 (v := 5) rfl rfl (by decide) rfl rfl rfl rfl ?_
    by_cases h5 : ((S 1 3) - (S 1 2)) = 5
    · refine r_icmp_eq1 (pc' := 26) rfl rfl (by omega) (by omega) ?_
      refine r_const (pc' := 27) rfl rfl ?_
      refine r_istore (pc' := 28) (ls' := [some (.inr (.inr 1)), some (.inr (.inr (-4))), some (.inl 0)]) rfl rfl rfl rfl ?_
      refine r_iload (pc' := 29) rfl rfl rfl ?_
      refine r_aload (pc' := 30) rfl rfl rfl ?_
      refine q_len 1 (v := 5) rfl rfl (by decide) rfl rfl rfl rfl ?_
      refine r_icmp_ge0 (pc' := 36) rfl rfl (by decide) (by decide) ?_
      refine r_aload (pc' := 37) rfl rfl rfl ?_
      refine r_getr (pc' := 40) (v := 2) rfl rfl rfl rfl rfl ?_
      refine r_aload (pc' := 41) rfl rfl rfl ?_
      refine r_getv (pc' := 44) (v := (S 1 2)) rfl rfl (Or.inl rfl) rfl rfl ?_
      refine r_iload (pc' := 45) rfl rfl rfl ?_
      refine r_iadd (pc' := 46) rfl rfl ?_
      refine r_aldv (pc' := 47) (v := (S 2 ((S 1 2) + 0))) 200 rfl rfl rfl (by omega) rfl ?_
      have b6 : 0 ≤ S 2 ((S 1 2) + 0) ∧ S 2 ((S 1 2) + 0) ≤ 255 := hB 2 ((S 1 2) + 0)
      refine r_aload (pc' := 48) rfl rfl rfl ?_
      refine r_iload (pc' := 49) rfl rfl rfl ?_
      refine q_chr 1 0 (v := 104) rfl rfl rfl (by decide) rfl rfl rfl rfl rfl ?_
      by_cases h7 : (S 2 ((S 1 2) + 0)) = 104
      · refine r_icmp_eq1 (pc' := 57) rfl rfl (by omega) (by omega) ?_
        refine r_iinc (pc' := 60) (ls' := [some (.inr (.inr 1)), some (.inr (.inr (-4))), some (.inl 1)]) rfl rfl rfl rfl rfl ?_
        refine r_goto (pc' := 28) rfl rfl ?_
        refine r_iload (pc' := 29) rfl rfl rfl ?_
        refine r_aload (pc' := 30) rfl rfl rfl ?_
        refine q_len 1 (v := 5) rfl rfl (by decide) rfl rfl rfl rfl ?_
        refine r_icmp_ge0 (pc' := 36) rfl rfl (by decide) (by decide) ?_
        refine r_aload (pc' := 37) rfl rfl rfl ?_
        refine r_getr (pc' := 40) (v := 2) rfl rfl rfl rfl rfl ?_
        refine r_aload (pc' := 41) rfl rfl rfl ?_
        refine r_getv (pc' := 44) (v := (S 1 2)) rfl rfl (Or.inl rfl) rfl rfl ?_
        refine r_iload (pc' := 45) rfl rfl rfl ?_
        refine r_iadd (pc' := 46) rfl rfl ?_
        refine r_aldv (pc' := 47) (v := (S 2 ((S 1 2) + 1))) 200 rfl rfl rfl (by omega) rfl ?_
        have b8 : 0 ≤ S 2 ((S 1 2) + 1) ∧ S 2 ((S 1 2) + 1) ≤ 255 := hB 2 ((S 1 2) + 1)
        refine r_aload (pc' := 48) rfl rfl rfl ?_
        refine r_iload (pc' := 49) rfl rfl rfl ?_
        refine q_chr 1 1 (v := 111) rfl rfl rfl (by decide) rfl rfl rfl rfl rfl ?_
        by_cases h9 : (S 2 ((S 1 2) + 1)) = 111
        · refine r_icmp_eq1 (pc' := 57) rfl rfl (by omega) (by omega) ?_
          refine r_iinc (pc' := 60) (ls' := [some (.inr (.inr 1)), some (.inr (.inr (-4))), some (.inl 2)]) rfl rfl rfl rfl rfl ?_
          refine r_goto (pc' := 28) rfl rfl ?_
          refine r_iload (pc' := 29) rfl rfl rfl ?_
          refine r_aload (pc' := 30) rfl rfl rfl ?_
          refine q_len 1 (v := 5) rfl rfl (by decide) rfl rfl rfl rfl ?_
          refine r_icmp_ge0 (pc' := 36) rfl rfl (by decide) (by decide) ?_
          refine r_aload (pc' := 37) rfl rfl rfl ?_
          refine r_getr (pc' := 40) (v := 2) rfl rfl rfl rfl rfl ?_
          refine r_aload (pc' := 41) rfl rfl rfl ?_
          refine r_getv (pc' := 44) (v := (S 1 2)) rfl rfl (Or.inl rfl) rfl rfl ?_
          refine r_iload (pc' := 45) rfl rfl rfl ?_
          refine r_iadd (pc' := 46) rfl rfl ?_
          refine r_aldv (pc' := 47) (v := (S 2 ((S 1 2) + 2))) 200 rfl rfl rfl (by omega) rfl ?_
          have b10 : 0 ≤ S 2 ((S 1 2) + 2) ∧ S 2 ((S 1 2) + 2) ≤ 255 := hB 2 ((S 1 2) + 2)
          refine r_aload (pc' := 48) rfl rfl rfl ?_
          refine r_iload (pc' := 49) rfl rfl rfl ?_
          refine q_chr 1 2 (v := 108) rfl rfl rfl (by decide) rfl rfl rfl rfl rfl ?_
          by_cases h11 : (S 2 ((S 1 2) + 2)) = 108
          · refine r_icmp_eq1 (pc' := 57) rfl rfl (by omega) (by omega) ?_
            refine r_iinc (pc' := 60) (ls' := [some (.inr (.inr 1)), some (.inr (.inr (-4))), some (.inl 3)]) rfl rfl rfl rfl rfl ?_
            refine r_goto (pc' := 28) rfl rfl ?_
            refine r_iload (pc' := 29) rfl rfl rfl ?_
            refine r_aload (pc' := 30) rfl rfl rfl ?_
            refine q_len 1 (v := 5) rfl rfl (by decide) rfl rfl rfl rfl ?_
            refine r_icmp_ge0 (pc' := 36) rfl rfl (by decide) (by decide) ?_
            refine r_aload (pc' := 37) rfl rfl rfl ?_
            refine r_getr (pc' := 40) (v := 2) rfl rfl rfl rfl rfl ?_
            refine r_aload (pc' := 41) rfl rfl rfl ?_
            refine r_getv (pc' := 44) (v := (S 1 2)) rfl rfl (Or.inl rfl) rfl rfl ?_
            refine r_iload (pc' := 45) rfl rfl rfl ?_
            refine r_iadd (pc' := 46) rfl rfl ?_
            refine r_aldv (pc' := 47) (v := (S 2 ((S 1 2) + 3))) 200 rfl rfl rfl (by omega) rfl ?_
            have b12 : 0 ≤ S 2 ((S 1 2) + 3) ∧ S 2 ((S 1 2) + 3) ≤ 255 := hB 2 ((S 1 2) + 3)
            refine r_aload (pc' := 48) rfl rfl rfl ?_
            refine r_iload (pc' := 49) rfl rfl rfl ?_
            refine q_chr 1 3 (v := 108) rfl rfl rfl (by decide) rfl rfl rfl rfl rfl ?_
            by_cases h13 : (S 2 ((S 1 2) + 3)) = 108
            · refine r_icmp_eq1 (pc' := 57) rfl rfl (by omega) (by omega) ?_
              refine r_iinc (pc' := 60) (ls' := [some (.inr (.inr 1)), some (.inr (.inr (-4))), some (.inl 4)]) rfl rfl rfl rfl rfl ?_
              refine r_goto (pc' := 28) rfl rfl ?_
              refine r_iload (pc' := 29) rfl rfl rfl ?_
              refine r_aload (pc' := 30) rfl rfl rfl ?_
              refine q_len 1 (v := 5) rfl rfl (by decide) rfl rfl rfl rfl ?_
              refine r_icmp_ge0 (pc' := 36) rfl rfl (by decide) (by decide) ?_
              refine r_aload (pc' := 37) rfl rfl rfl ?_
              refine r_getr (pc' := 40) (v := 2) rfl rfl rfl rfl rfl ?_
              refine r_aload (pc' := 41) rfl rfl rfl ?_
              refine r_getv (pc' := 44) (v := (S 1 2)) rfl rfl (Or.inl rfl) rfl rfl ?_
              refine r_iload (pc' := 45) rfl rfl rfl ?_
              refine r_iadd (pc' := 46) rfl rfl ?_
              refine r_aldv (pc' := 47) (v := (S 2 ((S 1 2) + 4))) 200 rfl rfl rfl (by omega) rfl ?_
              have b14 : 0 ≤ S 2 ((S 1 2) + 4) ∧ S 2 ((S 1 2) + 4) ≤ 255 := hB 2 ((S 1 2) + 4)
              refine r_aload (pc' := 48) rfl rfl rfl ?_
              refine r_iload (pc' := 49) rfl rfl rfl ?_
              refine q_chr 1 4 (v := 121) rfl rfl rfl (by decide) rfl rfl rfl rfl rfl ?_
              by_cases h15 : (S 2 ((S 1 2) + 4)) = 121
              · refine r_icmp_eq1 (pc' := 57) rfl rfl (by omega) (by omega) ?_
                refine r_iinc (pc' := 60) (ls' := [some (.inr (.inr 1)), some (.inr (.inr (-4))), some (.inl 5)]) rfl rfl rfl rfl rfl ?_
                refine r_goto (pc' := 28) rfl rfl ?_
                refine r_iload (pc' := 29) rfl rfl rfl ?_
                refine r_aload (pc' := 30) rfl rfl rfl ?_
                refine q_len 1 (v := 5) rfl rfl (by decide) rfl rfl rfl rfl ?_
                refine r_icmp_ge1 (pc' := 63) rfl rfl (by decide) (by decide) ?_
                refine r_const (pc' := 64) rfl rfl ?_
                refine q_zret rfl rfl rfl (by omega) ?_
                exact ⟨bi_t (by omega), rfl⟩
              · refine r_icmp_eq0 (pc' := 55) rfl rfl (by omega) (by omega) ?_
                refine r_const (pc' := 56) rfl rfl ?_
                refine q_zret rfl rfl rfl (by omega) ?_
                exact ⟨bi_f (by omega), rfl⟩
            · refine r_icmp_eq0 (pc' := 55) rfl rfl (by omega) (by omega) ?_
              refine r_const (pc' := 56) rfl rfl ?_
              refine q_zret rfl rfl rfl (by omega) ?_
              exact ⟨bi_f (by omega), rfl⟩
          · refine r_icmp_eq0 (pc' := 55) rfl rfl (by omega) (by omega) ?_
            refine r_const (pc' := 56) rfl rfl ?_
            refine q_zret rfl rfl rfl (by omega) ?_
            exact ⟨bi_f (by omega), rfl⟩
        · refine r_icmp_eq0 (pc' := 55) rfl rfl (by omega) (by omega) ?_
          refine r_const (pc' := 56) rfl rfl ?_
          refine q_zret rfl rfl rfl (by omega) ?_
          exact ⟨bi_f (by omega), rfl⟩
      · refine r_icmp_eq0 (pc' := 55) rfl rfl (by omega) (by omega) ?_
        refine r_const (pc' := 56) rfl rfl ?_
        refine q_zret rfl rfl rfl (by omega) ?_
        exact ⟨bi_f (by omega), rfl⟩
    · refine r_icmp_eq0 (pc' := 24) rfl rfl (by omega) (by omega) ?_
      refine r_const (pc' := 25) rfl rfl ?_
      refine q_zret rfl rfl rfl (by omega) ?_
      exact ⟨bi_f (by omega), rfl⟩
  · refine r_icmp_ne1 (pc' := 24) rfl rfl (by omega) (by omega) ?_
    refine r_const (pc' := 25) rfl rfl ?_
    refine q_zret rfl rfl rfl (by omega) ?_
    exact ⟨bi_f (by omega), rfl⟩
theorem c_X8_isWord_2 {S : rS} (hB : Bd S) : CS 6 179 [.inr (.inr 1), .inr (.inr (-5))] S (fun r' S' => r' = some (.inl (bi (S 1 4 = 1 ∧ S 1 3 - S 1 2 = 7 ∧ S 2 (S 1 2 + 0) = 98 ∧ S 2 (S 1 2 + 1) = 114 ∧ S 2 (S 1 2 + 2) = 97 ∧ S 2 (S 1 2 + 3) = 109 ∧ S 2 (S 1 2 + 4) = 98 ∧ S 2 (S 1 2 + 5) = 108 ∧ S 2 (S 1 2 + 6) = 101))) ∧ S' = S) := by
  refine RS.beg (ls := [some (.inr (.inr 1)), some (.inr (.inr (-5))), none]) rfl rfl rfl rfl rfl ?_
  have b12 : 0 ≤ S 1 2 ∧ S 1 2 ≤ 200 := hB 1 2
  have b13 : 0 ≤ S 1 3 ∧ S 1 3 ≤ 200 := hB 1 3
  refine r_aload (pc' := 1) rfl rfl rfl ?_
  refine r_getv (pc' := 4) (v := (S 1 4)) rfl rfl (Or.inl rfl) rfl rfl ?_
  have b1 : 0 ≤ S 1 4 ∧ S 1 4 ≤ 3 := hB 1 4
  refine r_const (pc' := 5) rfl rfl ?_
  by_cases h2 : (S 1 4) = 1
  · refine r_icmp_ne0 (pc' := 8) rfl rfl (by omega) (by omega) ?_
    refine r_aload (pc' := 9) rfl rfl rfl ?_
    refine r_getv (pc' := 12) (v := (S 1 3)) rfl rfl (Or.inl rfl) rfl rfl ?_
    have b3 : 0 ≤ S 1 3 ∧ S 1 3 ≤ 200 := hB 1 3
    refine r_aload (pc' := 13) rfl rfl rfl ?_
    refine r_getv (pc' := 16) (v := (S 1 2)) rfl rfl (Or.inl rfl) rfl rfl ?_
    have b4 : 0 ≤ S 1 2 ∧ S 1 2 ≤ 200 := hB 1 2
    refine r_isub (pc' := 17) rfl rfl ?_
    refine r_aload (pc' := 18) rfl rfl rfl ?_
    refine q_len 2 (v := 7) rfl rfl (by decide) rfl rfl rfl rfl ?_
    by_cases h5 : ((S 1 3) - (S 1 2)) = 7
    · refine r_icmp_eq1 (pc' := 26) rfl rfl (by omega) (by omega) ?_
      refine r_const (pc' := 27) rfl rfl ?_
      refine r_istore (pc' := 28) (ls' := [some (.inr (.inr 1)), some (.inr (.inr (-5))), some (.inl 0)]) rfl rfl rfl rfl ?_
      refine r_iload (pc' := 29) rfl rfl rfl ?_
      refine r_aload (pc' := 30) rfl rfl rfl ?_
      refine q_len 2 (v := 7) rfl rfl (by decide) rfl rfl rfl rfl ?_
      refine r_icmp_ge0 (pc' := 36) rfl rfl (by decide) (by decide) ?_
      refine r_aload (pc' := 37) rfl rfl rfl ?_
      refine r_getr (pc' := 40) (v := 2) rfl rfl rfl rfl rfl ?_
      refine r_aload (pc' := 41) rfl rfl rfl ?_
      refine r_getv (pc' := 44) (v := (S 1 2)) rfl rfl (Or.inl rfl) rfl rfl ?_
      refine r_iload (pc' := 45) rfl rfl rfl ?_
      refine r_iadd (pc' := 46) rfl rfl ?_
      refine r_aldv (pc' := 47) (v := (S 2 ((S 1 2) + 0))) 200 rfl rfl rfl (by omega) rfl ?_
      have b6 : 0 ≤ S 2 ((S 1 2) + 0) ∧ S 2 ((S 1 2) + 0) ≤ 255 := hB 2 ((S 1 2) + 0)
      refine r_aload (pc' := 48) rfl rfl rfl ?_
      refine r_iload (pc' := 49) rfl rfl rfl ?_
      refine q_chr 2 0 (v := 98) rfl rfl rfl (by decide) rfl rfl rfl rfl rfl ?_
      by_cases h7 : (S 2 ((S 1 2) + 0)) = 98
      · refine r_icmp_eq1 (pc' := 57) rfl rfl (by omega) (by omega) ?_
        refine r_iinc (pc' := 60) (ls' := [some (.inr (.inr 1)), some (.inr (.inr (-5))), some (.inl 1)]) rfl rfl rfl rfl rfl ?_
        refine r_goto (pc' := 28) rfl rfl ?_
        refine r_iload (pc' := 29) rfl rfl rfl ?_
        refine r_aload (pc' := 30) rfl rfl rfl ?_
        refine q_len 2 (v := 7) rfl rfl (by decide) rfl rfl rfl rfl ?_
        refine r_icmp_ge0 (pc' := 36) rfl rfl (by decide) (by decide) ?_
        refine r_aload (pc' := 37) rfl rfl rfl ?_
        refine r_getr (pc' := 40) (v := 2) rfl rfl rfl rfl rfl ?_
        refine r_aload (pc' := 41) rfl rfl rfl ?_
        refine r_getv (pc' := 44) (v := (S 1 2)) rfl rfl (Or.inl rfl) rfl rfl ?_
        refine r_iload (pc' := 45) rfl rfl rfl ?_
        refine r_iadd (pc' := 46) rfl rfl ?_
        refine r_aldv (pc' := 47) (v := (S 2 ((S 1 2) + 1))) 200 rfl rfl rfl (by omega) rfl ?_
        have b8 : 0 ≤ S 2 ((S 1 2) + 1) ∧ S 2 ((S 1 2) + 1) ≤ 255 := hB 2 ((S 1 2) + 1)
        refine r_aload (pc' := 48) rfl rfl rfl ?_
        refine r_iload (pc' := 49) rfl rfl rfl ?_
        refine q_chr 2 1 (v := 114) rfl rfl rfl (by decide) rfl rfl rfl rfl rfl ?_
        by_cases h9 : (S 2 ((S 1 2) + 1)) = 114
        · refine r_icmp_eq1 (pc' := 57) rfl rfl (by omega) (by omega) ?_
          refine r_iinc (pc' := 60) (ls' := [some (.inr (.inr 1)), some (.inr (.inr (-5))), some (.inl 2)]) rfl rfl rfl rfl rfl ?_
          refine r_goto (pc' := 28) rfl rfl ?_
          refine r_iload (pc' := 29) rfl rfl rfl ?_
          refine r_aload (pc' := 30) rfl rfl rfl ?_
          refine q_len 2 (v := 7) rfl rfl (by decide) rfl rfl rfl rfl ?_
          refine r_icmp_ge0 (pc' := 36) rfl rfl (by decide) (by decide) ?_
          refine r_aload (pc' := 37) rfl rfl rfl ?_
          refine r_getr (pc' := 40) (v := 2) rfl rfl rfl rfl rfl ?_
          refine r_aload (pc' := 41) rfl rfl rfl ?_
          refine r_getv (pc' := 44) (v := (S 1 2)) rfl rfl (Or.inl rfl) rfl rfl ?_
          refine r_iload (pc' := 45) rfl rfl rfl ?_
          refine r_iadd (pc' := 46) rfl rfl ?_
          refine r_aldv (pc' := 47) (v := (S 2 ((S 1 2) + 2))) 200 rfl rfl rfl (by omega) rfl ?_
          have b10 : 0 ≤ S 2 ((S 1 2) + 2) ∧ S 2 ((S 1 2) + 2) ≤ 255 := hB 2 ((S 1 2) + 2)
          refine r_aload (pc' := 48) rfl rfl rfl ?_
          refine r_iload (pc' := 49) rfl rfl rfl ?_
          refine q_chr 2 2 (v := 97) rfl rfl rfl (by decide) rfl rfl rfl rfl rfl ?_
          by_cases h11 : (S 2 ((S 1 2) + 2)) = 97
          · refine r_icmp_eq1 (pc' := 57) rfl rfl (by omega) (by omega) ?_
            refine r_iinc (pc' := 60) (ls' := [some (.inr (.inr 1)), some (.inr (.inr (-5))), some (.inl 3)]) rfl rfl rfl rfl rfl ?_
            refine r_goto (pc' := 28) rfl rfl ?_
            refine r_iload (pc' := 29) rfl rfl rfl ?_
            refine r_aload (pc' := 30) rfl rfl rfl ?_
            refine q_len 2 (v := 7) rfl rfl (by decide) rfl rfl rfl rfl ?_
            refine r_icmp_ge0 (pc' := 36) rfl rfl (by decide) (by decide) ?_
            refine r_aload (pc' := 37) rfl rfl rfl ?_
            refine r_getr (pc' := 40) (v := 2) rfl rfl rfl rfl rfl ?_
            refine r_aload (pc' := 41) rfl rfl rfl ?_
            refine r_getv (pc' := 44) (v := (S 1 2)) rfl rfl (Or.inl rfl) rfl rfl ?_
            refine r_iload (pc' := 45) rfl rfl rfl ?_
            refine r_iadd (pc' := 46) rfl rfl ?_
            refine r_aldv (pc' := 47) (v := (S 2 ((S 1 2) + 3))) 200 rfl rfl rfl (by omega) rfl ?_
            have b12 : 0 ≤ S 2 ((S 1 2) + 3) ∧ S 2 ((S 1 2) + 3) ≤ 255 := hB 2 ((S 1 2) + 3)
            refine r_aload (pc' := 48) rfl rfl rfl ?_
            refine r_iload (pc' := 49) rfl rfl rfl ?_
            refine q_chr 2 3 (v := 109) rfl rfl rfl (by decide) rfl rfl rfl rfl rfl ?_
            by_cases h13 : (S 2 ((S 1 2) + 3)) = 109
            · refine r_icmp_eq1 (pc' := 57) rfl rfl (by omega) (by omega) ?_
              refine r_iinc (pc' := 60) (ls' := [some (.inr (.inr 1)), some (.inr (.inr (-5))), some (.inl 4)]) rfl rfl rfl rfl rfl ?_
              refine r_goto (pc' := 28) rfl rfl ?_
              refine r_iload (pc' := 29) rfl rfl rfl ?_
              refine r_aload (pc' := 30) rfl rfl rfl ?_
              refine q_len 2 (v := 7) rfl rfl (by decide) rfl rfl rfl rfl ?_
              refine r_icmp_ge0 (pc' := 36) rfl rfl (by decide) (by decide) ?_
              refine r_aload (pc' := 37) rfl rfl rfl ?_
              refine r_getr (pc' := 40) (v := 2) rfl rfl rfl rfl rfl ?_
              refine r_aload (pc' := 41) rfl rfl rfl ?_
              refine r_getv (pc' := 44) (v := (S 1 2)) rfl rfl (Or.inl rfl) rfl rfl ?_
              refine r_iload (pc' := 45) rfl rfl rfl ?_
              refine r_iadd (pc' := 46) rfl rfl ?_
              refine r_aldv (pc' := 47) (v := (S 2 ((S 1 2) + 4))) 200 rfl rfl rfl (by omega) rfl ?_
              have b14 : 0 ≤ S 2 ((S 1 2) + 4) ∧ S 2 ((S 1 2) + 4) ≤ 255 := hB 2 ((S 1 2) + 4)
              refine r_aload (pc' := 48) rfl rfl rfl ?_
              refine r_iload (pc' := 49) rfl rfl rfl ?_
              refine q_chr 2 4 (v := 98) rfl rfl rfl (by decide) rfl rfl rfl rfl rfl ?_
              by_cases h15 : (S 2 ((S 1 2) + 4)) = 98
              · refine r_icmp_eq1 (pc' := 57) rfl rfl (by omega) (by omega) ?_
                refine r_iinc (pc' := 60) (ls' := [some (.inr (.inr 1)), some (.inr (.inr (-5))), some (.inl 5)]) rfl rfl rfl rfl rfl ?_
                refine r_goto (pc' := 28) rfl rfl ?_
                refine r_iload (pc' := 29) rfl rfl rfl ?_
                refine r_aload (pc' := 30) rfl rfl rfl ?_
                refine q_len 2 (v := 7) rfl rfl (by decide) rfl rfl rfl rfl ?_
                refine r_icmp_ge0 (pc' := 36) rfl rfl (by decide) (by decide) ?_
                refine r_aload (pc' := 37) rfl rfl rfl ?_
                refine r_getr (pc' := 40) (v := 2) rfl rfl rfl rfl rfl ?_
                refine r_aload (pc' := 41) rfl rfl rfl ?_
                refine r_getv (pc' := 44) (v := (S 1 2)) rfl rfl (Or.inl rfl) rfl rfl ?_
                refine r_iload (pc' := 45) rfl rfl rfl ?_
                refine r_iadd (pc' := 46) rfl rfl ?_
                refine r_aldv (pc' := 47) (v := (S 2 ((S 1 2) + 5))) 200 rfl rfl rfl (by omega) rfl ?_
                have b16 : 0 ≤ S 2 ((S 1 2) + 5) ∧ S 2 ((S 1 2) + 5) ≤ 255 := hB 2 ((S 1 2) + 5)
                refine r_aload (pc' := 48) rfl rfl rfl ?_
                refine r_iload (pc' := 49) rfl rfl rfl ?_
                refine q_chr 2 5 (v := 108) rfl rfl rfl (by decide) rfl rfl rfl rfl rfl ?_
                by_cases h17 : (S 2 ((S 1 2) + 5)) = 108
                · refine r_icmp_eq1 (pc' := 57) rfl rfl (by omega) (by omega) ?_
                  refine r_iinc (pc' := 60) (ls' := [some (.inr (.inr 1)), some (.inr (.inr (-5))), some (.inl 6)]) rfl rfl rfl rfl rfl ?_
                  refine r_goto (pc' := 28) rfl rfl ?_
                  refine r_iload (pc' := 29) rfl rfl rfl ?_
                  refine r_aload (pc' := 30) rfl rfl rfl ?_
                  refine q_len 2 (v := 7) rfl rfl (by decide) rfl rfl rfl rfl ?_
                  refine r_icmp_ge0 (pc' := 36) rfl rfl (by decide) (by decide) ?_
                  refine r_aload (pc' := 37) rfl rfl rfl ?_
                  refine r_getr (pc' := 40) (v := 2) rfl rfl rfl rfl rfl ?_
                  refine r_aload (pc' := 41) rfl rfl rfl ?_
                  refine r_getv (pc' := 44) (v := (S 1 2)) rfl rfl (Or.inl rfl) rfl rfl ?_
                  refine r_iload (pc' := 45) rfl rfl rfl ?_
                  refine r_iadd (pc' := 46) rfl rfl ?_
                  refine r_aldv (pc' := 47) (v := (S 2 ((S 1 2) + 6))) 200 rfl rfl rfl (by omega) rfl ?_
                  have b18 : 0 ≤ S 2 ((S 1 2) + 6) ∧ S 2 ((S 1 2) + 6) ≤ 255 := hB 2 ((S 1 2) + 6)
                  refine r_aload (pc' := 48) rfl rfl rfl ?_
                  refine r_iload (pc' := 49) rfl rfl rfl ?_
                  refine q_chr 2 6 (v := 101) rfl rfl rfl (by decide) rfl rfl rfl rfl rfl ?_
                  by_cases h19 : (S 2 ((S 1 2) + 6)) = 101
                  · refine r_icmp_eq1 (pc' := 57) rfl rfl (by omega) (by omega) ?_
                    refine r_iinc (pc' := 60) (ls' := [some (.inr (.inr 1)), some (.inr (.inr (-5))), some (.inl 7)]) rfl rfl rfl rfl rfl ?_
                    refine r_goto (pc' := 28) rfl rfl ?_
                    refine r_iload (pc' := 29) rfl rfl rfl ?_
                    refine r_aload (pc' := 30) rfl rfl rfl ?_
                    refine q_len 2 (v := 7) rfl rfl (by decide) rfl rfl rfl rfl ?_
                    refine r_icmp_ge1 (pc' := 63) rfl rfl (by decide) (by decide) ?_
                    refine r_const (pc' := 64) rfl rfl ?_
                    refine q_zret rfl rfl rfl (by omega) ?_
                    exact ⟨bi_t (by omega), rfl⟩
                  · refine r_icmp_eq0 (pc' := 55) rfl rfl (by omega) (by omega) ?_
                    refine r_const (pc' := 56) rfl rfl ?_
                    refine q_zret rfl rfl rfl (by omega) ?_
                    exact ⟨bi_f (by omega), rfl⟩
                · refine r_icmp_eq0 (pc' := 55) rfl rfl (by omega) (by omega) ?_
                  refine r_const (pc' := 56) rfl rfl ?_
                  refine q_zret rfl rfl rfl (by omega) ?_
                  exact ⟨bi_f (by omega), rfl⟩
              · refine r_icmp_eq0 (pc' := 55) rfl rfl (by omega) (by omega) ?_
                refine r_const (pc' := 56) rfl rfl ?_
                refine q_zret rfl rfl rfl (by omega) ?_
                exact ⟨bi_f (by omega), rfl⟩
            · refine r_icmp_eq0 (pc' := 55) rfl rfl (by omega) (by omega) ?_
              refine r_const (pc' := 56) rfl rfl ?_
              refine q_zret rfl rfl rfl (by omega) ?_
              exact ⟨bi_f (by omega), rfl⟩
          · refine r_icmp_eq0 (pc' := 55) rfl rfl (by omega) (by omega) ?_
            refine r_const (pc' := 56) rfl rfl ?_
            refine q_zret rfl rfl rfl (by omega) ?_
            exact ⟨bi_f (by omega), rfl⟩
        · refine r_icmp_eq0 (pc' := 55) rfl rfl (by omega) (by omega) ?_
          refine r_const (pc' := 56) rfl rfl ?_
          refine q_zret rfl rfl rfl (by omega) ?_
          exact ⟨bi_f (by omega), rfl⟩
      · refine r_icmp_eq0 (pc' := 55) rfl rfl (by omega) (by omega) ?_
        refine r_const (pc' := 56) rfl rfl ?_
        refine q_zret rfl rfl rfl (by omega) ?_
        exact ⟨bi_f (by omega), rfl⟩
    · refine r_icmp_eq0 (pc' := 24) rfl rfl (by omega) (by omega) ?_
      refine r_const (pc' := 25) rfl rfl ?_
      refine q_zret rfl rfl rfl (by omega) ?_
      exact ⟨bi_f (by omega), rfl⟩
  · refine r_icmp_ne1 (pc' := 24) rfl rfl (by omega) (by omega) ?_
    refine r_const (pc' := 25) rfl rfl ?_
    refine q_zret rfl rfl rfl (by omega) ?_
    exact ⟨bi_f (by omega), rfl⟩
theorem c_X8_isWord_3 {S : rS} (hB : Bd S) : CS 6 179 [.inr (.inr 1), .inr (.inr (-6))] S (fun r' S' => r' = some (.inl (bi (S 1 4 = 1 ∧ S 1 3 - S 1 2 = 5 ∧ S 2 (S 1 2 + 0) = 104 ∧ S 2 (S 1 2 + 1) = 97 ∧ S 2 (S 1 2 + 2) = 122 ∧ S 2 (S 1 2 + 3) = 101 ∧ S 2 (S 1 2 + 4) = 108))) ∧ S' = S) := by
  refine RS.beg (ls := [some (.inr (.inr 1)), some (.inr (.inr (-6))), none]) rfl rfl rfl rfl rfl ?_
  have b12 : 0 ≤ S 1 2 ∧ S 1 2 ≤ 200 := hB 1 2
  have b13 : 0 ≤ S 1 3 ∧ S 1 3 ≤ 200 := hB 1 3
  refine r_aload (pc' := 1) rfl rfl rfl ?_
  refine r_getv (pc' := 4) (v := (S 1 4)) rfl rfl (Or.inl rfl) rfl rfl ?_
  have b1 : 0 ≤ S 1 4 ∧ S 1 4 ≤ 3 := hB 1 4
  refine r_const (pc' := 5) rfl rfl ?_
  by_cases h2 : (S 1 4) = 1
  · refine r_icmp_ne0 (pc' := 8) rfl rfl (by omega) (by omega) ?_
    refine r_aload (pc' := 9) rfl rfl rfl ?_
    refine r_getv (pc' := 12) (v := (S 1 3)) rfl rfl (Or.inl rfl) rfl rfl ?_
    have b3 : 0 ≤ S 1 3 ∧ S 1 3 ≤ 200 := hB 1 3
    refine r_aload (pc' := 13) rfl rfl rfl ?_
    refine r_getv (pc' := 16) (v := (S 1 2)) rfl rfl (Or.inl rfl) rfl rfl ?_
    have b4 : 0 ≤ S 1 2 ∧ S 1 2 ≤ 200 := hB 1 2
    refine r_isub (pc' := 17) rfl rfl ?_
    refine r_aload (pc' := 18) rfl rfl rfl ?_
    refine q_len 3 (v := 5) rfl rfl (by decide) rfl rfl rfl rfl ?_
    by_cases h5 : ((S 1 3) - (S 1 2)) = 5
    · refine r_icmp_eq1 (pc' := 26) rfl rfl (by omega) (by omega) ?_
      refine r_const (pc' := 27) rfl rfl ?_
      refine r_istore (pc' := 28) (ls' := [some (.inr (.inr 1)), some (.inr (.inr (-6))), some (.inl 0)]) rfl rfl rfl rfl ?_
      refine r_iload (pc' := 29) rfl rfl rfl ?_
      refine r_aload (pc' := 30) rfl rfl rfl ?_
      refine q_len 3 (v := 5) rfl rfl (by decide) rfl rfl rfl rfl ?_
      refine r_icmp_ge0 (pc' := 36) rfl rfl (by decide) (by decide) ?_
      refine r_aload (pc' := 37) rfl rfl rfl ?_
      refine r_getr (pc' := 40) (v := 2) rfl rfl rfl rfl rfl ?_
      refine r_aload (pc' := 41) rfl rfl rfl ?_
      refine r_getv (pc' := 44) (v := (S 1 2)) rfl rfl (Or.inl rfl) rfl rfl ?_
      refine r_iload (pc' := 45) rfl rfl rfl ?_
      refine r_iadd (pc' := 46) rfl rfl ?_
      refine r_aldv (pc' := 47) (v := (S 2 ((S 1 2) + 0))) 200 rfl rfl rfl (by omega) rfl ?_
      have b6 : 0 ≤ S 2 ((S 1 2) + 0) ∧ S 2 ((S 1 2) + 0) ≤ 255 := hB 2 ((S 1 2) + 0)
      refine r_aload (pc' := 48) rfl rfl rfl ?_
      refine r_iload (pc' := 49) rfl rfl rfl ?_
      refine q_chr 3 0 (v := 104) rfl rfl rfl (by decide) rfl rfl rfl rfl rfl ?_
      by_cases h7 : (S 2 ((S 1 2) + 0)) = 104
      · refine r_icmp_eq1 (pc' := 57) rfl rfl (by omega) (by omega) ?_
        refine r_iinc (pc' := 60) (ls' := [some (.inr (.inr 1)), some (.inr (.inr (-6))), some (.inl 1)]) rfl rfl rfl rfl rfl ?_
        refine r_goto (pc' := 28) rfl rfl ?_
        refine r_iload (pc' := 29) rfl rfl rfl ?_
        refine r_aload (pc' := 30) rfl rfl rfl ?_
        refine q_len 3 (v := 5) rfl rfl (by decide) rfl rfl rfl rfl ?_
        refine r_icmp_ge0 (pc' := 36) rfl rfl (by decide) (by decide) ?_
        refine r_aload (pc' := 37) rfl rfl rfl ?_
        refine r_getr (pc' := 40) (v := 2) rfl rfl rfl rfl rfl ?_
        refine r_aload (pc' := 41) rfl rfl rfl ?_
        refine r_getv (pc' := 44) (v := (S 1 2)) rfl rfl (Or.inl rfl) rfl rfl ?_
        refine r_iload (pc' := 45) rfl rfl rfl ?_
        refine r_iadd (pc' := 46) rfl rfl ?_
        refine r_aldv (pc' := 47) (v := (S 2 ((S 1 2) + 1))) 200 rfl rfl rfl (by omega) rfl ?_
        have b8 : 0 ≤ S 2 ((S 1 2) + 1) ∧ S 2 ((S 1 2) + 1) ≤ 255 := hB 2 ((S 1 2) + 1)
        refine r_aload (pc' := 48) rfl rfl rfl ?_
        refine r_iload (pc' := 49) rfl rfl rfl ?_
        refine q_chr 3 1 (v := 97) rfl rfl rfl (by decide) rfl rfl rfl rfl rfl ?_
        by_cases h9 : (S 2 ((S 1 2) + 1)) = 97
        · refine r_icmp_eq1 (pc' := 57) rfl rfl (by omega) (by omega) ?_
          refine r_iinc (pc' := 60) (ls' := [some (.inr (.inr 1)), some (.inr (.inr (-6))), some (.inl 2)]) rfl rfl rfl rfl rfl ?_
          refine r_goto (pc' := 28) rfl rfl ?_
          refine r_iload (pc' := 29) rfl rfl rfl ?_
          refine r_aload (pc' := 30) rfl rfl rfl ?_
          refine q_len 3 (v := 5) rfl rfl (by decide) rfl rfl rfl rfl ?_
          refine r_icmp_ge0 (pc' := 36) rfl rfl (by decide) (by decide) ?_
          refine r_aload (pc' := 37) rfl rfl rfl ?_
          refine r_getr (pc' := 40) (v := 2) rfl rfl rfl rfl rfl ?_
          refine r_aload (pc' := 41) rfl rfl rfl ?_
          refine r_getv (pc' := 44) (v := (S 1 2)) rfl rfl (Or.inl rfl) rfl rfl ?_
          refine r_iload (pc' := 45) rfl rfl rfl ?_
          refine r_iadd (pc' := 46) rfl rfl ?_
          refine r_aldv (pc' := 47) (v := (S 2 ((S 1 2) + 2))) 200 rfl rfl rfl (by omega) rfl ?_
          have b10 : 0 ≤ S 2 ((S 1 2) + 2) ∧ S 2 ((S 1 2) + 2) ≤ 255 := hB 2 ((S 1 2) + 2)
          refine r_aload (pc' := 48) rfl rfl rfl ?_
          refine r_iload (pc' := 49) rfl rfl rfl ?_
          refine q_chr 3 2 (v := 122) rfl rfl rfl (by decide) rfl rfl rfl rfl rfl ?_
          by_cases h11 : (S 2 ((S 1 2) + 2)) = 122
          · refine r_icmp_eq1 (pc' := 57) rfl rfl (by omega) (by omega) ?_
            refine r_iinc (pc' := 60) (ls' := [some (.inr (.inr 1)), some (.inr (.inr (-6))), some (.inl 3)]) rfl rfl rfl rfl rfl ?_
            refine r_goto (pc' := 28) rfl rfl ?_
            refine r_iload (pc' := 29) rfl rfl rfl ?_
            refine r_aload (pc' := 30) rfl rfl rfl ?_
            refine q_len 3 (v := 5) rfl rfl (by decide) rfl rfl rfl rfl ?_
            refine r_icmp_ge0 (pc' := 36) rfl rfl (by decide) (by decide) ?_
            refine r_aload (pc' := 37) rfl rfl rfl ?_
            refine r_getr (pc' := 40) (v := 2) rfl rfl rfl rfl rfl ?_
            refine r_aload (pc' := 41) rfl rfl rfl ?_
            refine r_getv (pc' := 44) (v := (S 1 2)) rfl rfl (Or.inl rfl) rfl rfl ?_
            refine r_iload (pc' := 45) rfl rfl rfl ?_
            refine r_iadd (pc' := 46) rfl rfl ?_
            refine r_aldv (pc' := 47) (v := (S 2 ((S 1 2) + 3))) 200 rfl rfl rfl (by omega) rfl ?_
            have b12 : 0 ≤ S 2 ((S 1 2) + 3) ∧ S 2 ((S 1 2) + 3) ≤ 255 := hB 2 ((S 1 2) + 3)
            refine r_aload (pc' := 48) rfl rfl rfl ?_
            refine r_iload (pc' := 49) rfl rfl rfl ?_
            refine q_chr 3 3 (v := 101) rfl rfl rfl (by decide) rfl rfl rfl rfl rfl ?_
            by_cases h13 : (S 2 ((S 1 2) + 3)) = 101
            · refine r_icmp_eq1 (pc' := 57) rfl rfl (by omega) (by omega) ?_
              refine r_iinc (pc' := 60) (ls' := [some (.inr (.inr 1)), some (.inr (.inr (-6))), some (.inl 4)]) rfl rfl rfl rfl rfl ?_
              refine r_goto (pc' := 28) rfl rfl ?_
              refine r_iload (pc' := 29) rfl rfl rfl ?_
              refine r_aload (pc' := 30) rfl rfl rfl ?_
              refine q_len 3 (v := 5) rfl rfl (by decide) rfl rfl rfl rfl ?_
              refine r_icmp_ge0 (pc' := 36) rfl rfl (by decide) (by decide) ?_
              refine r_aload (pc' := 37) rfl rfl rfl ?_
              refine r_getr (pc' := 40) (v := 2) rfl rfl rfl rfl rfl ?_
              refine r_aload (pc' := 41) rfl rfl rfl ?_
              refine r_getv (pc' := 44) (v := (S 1 2)) rfl rfl (Or.inl rfl) rfl rfl ?_
              refine r_iload (pc' := 45) rfl rfl rfl ?_
              refine r_iadd (pc' := 46) rfl rfl ?_
              refine r_aldv (pc' := 47) (v := (S 2 ((S 1 2) + 4))) 200 rfl rfl rfl (by omega) rfl ?_
              have b14 : 0 ≤ S 2 ((S 1 2) + 4) ∧ S 2 ((S 1 2) + 4) ≤ 255 := hB 2 ((S 1 2) + 4)
              refine r_aload (pc' := 48) rfl rfl rfl ?_
              refine r_iload (pc' := 49) rfl rfl rfl ?_
              refine q_chr 3 4 (v := 108) rfl rfl rfl (by decide) rfl rfl rfl rfl rfl ?_
              by_cases h15 : (S 2 ((S 1 2) + 4)) = 108
              · refine r_icmp_eq1 (pc' := 57) rfl rfl (by omega) (by omega) ?_
                refine r_iinc (pc' := 60) (ls' := [some (.inr (.inr 1)), some (.inr (.inr (-6))), some (.inl 5)]) rfl rfl rfl rfl rfl ?_
                refine r_goto (pc' := 28) rfl rfl ?_
                refine r_iload (pc' := 29) rfl rfl rfl ?_
                refine r_aload (pc' := 30) rfl rfl rfl ?_
                refine q_len 3 (v := 5) rfl rfl (by decide) rfl rfl rfl rfl ?_
                refine r_icmp_ge1 (pc' := 63) rfl rfl (by decide) (by decide) ?_
                refine r_const (pc' := 64) rfl rfl ?_
                refine q_zret rfl rfl rfl (by omega) ?_
                exact ⟨bi_t (by omega), rfl⟩
              · refine r_icmp_eq0 (pc' := 55) rfl rfl (by omega) (by omega) ?_
                refine r_const (pc' := 56) rfl rfl ?_
                refine q_zret rfl rfl rfl (by omega) ?_
                exact ⟨bi_f (by omega), rfl⟩
            · refine r_icmp_eq0 (pc' := 55) rfl rfl (by omega) (by omega) ?_
              refine r_const (pc' := 56) rfl rfl ?_
              refine q_zret rfl rfl rfl (by omega) ?_
              exact ⟨bi_f (by omega), rfl⟩
          · refine r_icmp_eq0 (pc' := 55) rfl rfl (by omega) (by omega) ?_
            refine r_const (pc' := 56) rfl rfl ?_
            refine q_zret rfl rfl rfl (by omega) ?_
            exact ⟨bi_f (by omega), rfl⟩
        · refine r_icmp_eq0 (pc' := 55) rfl rfl (by omega) (by omega) ?_
          refine r_const (pc' := 56) rfl rfl ?_
          refine q_zret rfl rfl rfl (by omega) ?_
          exact ⟨bi_f (by omega), rfl⟩
      · refine r_icmp_eq0 (pc' := 55) rfl rfl (by omega) (by omega) ?_
        refine r_const (pc' := 56) rfl rfl ?_
        refine q_zret rfl rfl rfl (by omega) ?_
        exact ⟨bi_f (by omega), rfl⟩
    · refine r_icmp_eq0 (pc' := 24) rfl rfl (by omega) (by omega) ?_
      refine r_const (pc' := 25) rfl rfl ?_
      refine q_zret rfl rfl rfl (by omega) ?_
      exact ⟨bi_f (by omega), rfl⟩
  · refine r_icmp_ne1 (pc' := 24) rfl rfl (by omega) (by omega) ?_
    refine r_const (pc' := 25) rfl rfl ?_
    refine q_zret rfl rfl rfl (by omega) ?_
    exact ⟨bi_f (by omega), rfl⟩
theorem c_X8_isWord_4 {S : rS} (hB : Bd S) : CS 6 179 [.inr (.inr 1), .inr (.inr (-7))] S (fun r' S' => r' = some (.inl (bi (S 1 4 = 1 ∧ S 1 3 - S 1 2 = 6 ∧ S 2 (S 1 2 + 0) = 112 ∧ S 2 (S 1 2 + 1) = 97 ∧ S 2 (S 1 2 + 2) = 114 ∧ S 2 (S 1 2 + 3) = 105 ∧ S 2 (S 1 2 + 4) = 115 ∧ S 2 (S 1 2 + 5) = 104))) ∧ S' = S) := by
  refine RS.beg (ls := [some (.inr (.inr 1)), some (.inr (.inr (-7))), none]) rfl rfl rfl rfl rfl ?_
  have b12 : 0 ≤ S 1 2 ∧ S 1 2 ≤ 200 := hB 1 2
  have b13 : 0 ≤ S 1 3 ∧ S 1 3 ≤ 200 := hB 1 3
  refine r_aload (pc' := 1) rfl rfl rfl ?_
  refine r_getv (pc' := 4) (v := (S 1 4)) rfl rfl (Or.inl rfl) rfl rfl ?_
  have b1 : 0 ≤ S 1 4 ∧ S 1 4 ≤ 3 := hB 1 4
  refine r_const (pc' := 5) rfl rfl ?_
  by_cases h2 : (S 1 4) = 1
  · refine r_icmp_ne0 (pc' := 8) rfl rfl (by omega) (by omega) ?_
    refine r_aload (pc' := 9) rfl rfl rfl ?_
    refine r_getv (pc' := 12) (v := (S 1 3)) rfl rfl (Or.inl rfl) rfl rfl ?_
    have b3 : 0 ≤ S 1 3 ∧ S 1 3 ≤ 200 := hB 1 3
    refine r_aload (pc' := 13) rfl rfl rfl ?_
    refine r_getv (pc' := 16) (v := (S 1 2)) rfl rfl (Or.inl rfl) rfl rfl ?_
    have b4 : 0 ≤ S 1 2 ∧ S 1 2 ≤ 200 := hB 1 2
    refine r_isub (pc' := 17) rfl rfl ?_
    refine r_aload (pc' := 18) rfl rfl rfl ?_
    refine q_len 4 (v := 6) rfl rfl (by decide) rfl rfl rfl rfl ?_
    by_cases h5 : ((S 1 3) - (S 1 2)) = 6
    · refine r_icmp_eq1 (pc' := 26) rfl rfl (by omega) (by omega) ?_
      refine r_const (pc' := 27) rfl rfl ?_
      refine r_istore (pc' := 28) (ls' := [some (.inr (.inr 1)), some (.inr (.inr (-7))), some (.inl 0)]) rfl rfl rfl rfl ?_
      refine r_iload (pc' := 29) rfl rfl rfl ?_
      refine r_aload (pc' := 30) rfl rfl rfl ?_
      refine q_len 4 (v := 6) rfl rfl (by decide) rfl rfl rfl rfl ?_
      refine r_icmp_ge0 (pc' := 36) rfl rfl (by decide) (by decide) ?_
      refine r_aload (pc' := 37) rfl rfl rfl ?_
      refine r_getr (pc' := 40) (v := 2) rfl rfl rfl rfl rfl ?_
      refine r_aload (pc' := 41) rfl rfl rfl ?_
      refine r_getv (pc' := 44) (v := (S 1 2)) rfl rfl (Or.inl rfl) rfl rfl ?_
      refine r_iload (pc' := 45) rfl rfl rfl ?_
      refine r_iadd (pc' := 46) rfl rfl ?_
      refine r_aldv (pc' := 47) (v := (S 2 ((S 1 2) + 0))) 200 rfl rfl rfl (by omega) rfl ?_
      have b6 : 0 ≤ S 2 ((S 1 2) + 0) ∧ S 2 ((S 1 2) + 0) ≤ 255 := hB 2 ((S 1 2) + 0)
      refine r_aload (pc' := 48) rfl rfl rfl ?_
      refine r_iload (pc' := 49) rfl rfl rfl ?_
      refine q_chr 4 0 (v := 112) rfl rfl rfl (by decide) rfl rfl rfl rfl rfl ?_
      by_cases h7 : (S 2 ((S 1 2) + 0)) = 112
      · refine r_icmp_eq1 (pc' := 57) rfl rfl (by omega) (by omega) ?_
        refine r_iinc (pc' := 60) (ls' := [some (.inr (.inr 1)), some (.inr (.inr (-7))), some (.inl 1)]) rfl rfl rfl rfl rfl ?_
        refine r_goto (pc' := 28) rfl rfl ?_
        refine r_iload (pc' := 29) rfl rfl rfl ?_
        refine r_aload (pc' := 30) rfl rfl rfl ?_
        refine q_len 4 (v := 6) rfl rfl (by decide) rfl rfl rfl rfl ?_
        refine r_icmp_ge0 (pc' := 36) rfl rfl (by decide) (by decide) ?_
        refine r_aload (pc' := 37) rfl rfl rfl ?_
        refine r_getr (pc' := 40) (v := 2) rfl rfl rfl rfl rfl ?_
        refine r_aload (pc' := 41) rfl rfl rfl ?_
        refine r_getv (pc' := 44) (v := (S 1 2)) rfl rfl (Or.inl rfl) rfl rfl ?_
        refine r_iload (pc' := 45) rfl rfl rfl ?_
        refine r_iadd (pc' := 46) rfl rfl ?_
        refine r_aldv (pc' := 47) (v := (S 2 ((S 1 2) + 1))) 200 rfl rfl rfl (by omega) rfl ?_
        have b8 : 0 ≤ S 2 ((S 1 2) + 1) ∧ S 2 ((S 1 2) + 1) ≤ 255 := hB 2 ((S 1 2) + 1)
        refine r_aload (pc' := 48) rfl rfl rfl ?_
        refine r_iload (pc' := 49) rfl rfl rfl ?_
        refine q_chr 4 1 (v := 97) rfl rfl rfl (by decide) rfl rfl rfl rfl rfl ?_
        by_cases h9 : (S 2 ((S 1 2) + 1)) = 97
        · refine r_icmp_eq1 (pc' := 57) rfl rfl (by omega) (by omega) ?_
          refine r_iinc (pc' := 60) (ls' := [some (.inr (.inr 1)), some (.inr (.inr (-7))), some (.inl 2)]) rfl rfl rfl rfl rfl ?_
          refine r_goto (pc' := 28) rfl rfl ?_
          refine r_iload (pc' := 29) rfl rfl rfl ?_
          refine r_aload (pc' := 30) rfl rfl rfl ?_
          refine q_len 4 (v := 6) rfl rfl (by decide) rfl rfl rfl rfl ?_
          refine r_icmp_ge0 (pc' := 36) rfl rfl (by decide) (by decide) ?_
          refine r_aload (pc' := 37) rfl rfl rfl ?_
          refine r_getr (pc' := 40) (v := 2) rfl rfl rfl rfl rfl ?_
          refine r_aload (pc' := 41) rfl rfl rfl ?_
          refine r_getv (pc' := 44) (v := (S 1 2)) rfl rfl (Or.inl rfl) rfl rfl ?_
          refine r_iload (pc' := 45) rfl rfl rfl ?_
          refine r_iadd (pc' := 46) rfl rfl ?_
          refine r_aldv (pc' := 47) (v := (S 2 ((S 1 2) + 2))) 200 rfl rfl rfl (by omega) rfl ?_
          have b10 : 0 ≤ S 2 ((S 1 2) + 2) ∧ S 2 ((S 1 2) + 2) ≤ 255 := hB 2 ((S 1 2) + 2)
          refine r_aload (pc' := 48) rfl rfl rfl ?_
          refine r_iload (pc' := 49) rfl rfl rfl ?_
          refine q_chr 4 2 (v := 114) rfl rfl rfl (by decide) rfl rfl rfl rfl rfl ?_
          by_cases h11 : (S 2 ((S 1 2) + 2)) = 114
          · refine r_icmp_eq1 (pc' := 57) rfl rfl (by omega) (by omega) ?_
            refine r_iinc (pc' := 60) (ls' := [some (.inr (.inr 1)), some (.inr (.inr (-7))), some (.inl 3)]) rfl rfl rfl rfl rfl ?_
            refine r_goto (pc' := 28) rfl rfl ?_
            refine r_iload (pc' := 29) rfl rfl rfl ?_
            refine r_aload (pc' := 30) rfl rfl rfl ?_
            refine q_len 4 (v := 6) rfl rfl (by decide) rfl rfl rfl rfl ?_
            refine r_icmp_ge0 (pc' := 36) rfl rfl (by decide) (by decide) ?_
            refine r_aload (pc' := 37) rfl rfl rfl ?_
            refine r_getr (pc' := 40) (v := 2) rfl rfl rfl rfl rfl ?_
            refine r_aload (pc' := 41) rfl rfl rfl ?_
            refine r_getv (pc' := 44) (v := (S 1 2)) rfl rfl (Or.inl rfl) rfl rfl ?_
            refine r_iload (pc' := 45) rfl rfl rfl ?_
            refine r_iadd (pc' := 46) rfl rfl ?_
            refine r_aldv (pc' := 47) (v := (S 2 ((S 1 2) + 3))) 200 rfl rfl rfl (by omega) rfl ?_
            have b12 : 0 ≤ S 2 ((S 1 2) + 3) ∧ S 2 ((S 1 2) + 3) ≤ 255 := hB 2 ((S 1 2) + 3)
            refine r_aload (pc' := 48) rfl rfl rfl ?_
            refine r_iload (pc' := 49) rfl rfl rfl ?_
            refine q_chr 4 3 (v := 105) rfl rfl rfl (by decide) rfl rfl rfl rfl rfl ?_
            by_cases h13 : (S 2 ((S 1 2) + 3)) = 105
            · refine r_icmp_eq1 (pc' := 57) rfl rfl (by omega) (by omega) ?_
              refine r_iinc (pc' := 60) (ls' := [some (.inr (.inr 1)), some (.inr (.inr (-7))), some (.inl 4)]) rfl rfl rfl rfl rfl ?_
              refine r_goto (pc' := 28) rfl rfl ?_
              refine r_iload (pc' := 29) rfl rfl rfl ?_
              refine r_aload (pc' := 30) rfl rfl rfl ?_
              refine q_len 4 (v := 6) rfl rfl (by decide) rfl rfl rfl rfl ?_
              refine r_icmp_ge0 (pc' := 36) rfl rfl (by decide) (by decide) ?_
              refine r_aload (pc' := 37) rfl rfl rfl ?_
              refine r_getr (pc' := 40) (v := 2) rfl rfl rfl rfl rfl ?_
              refine r_aload (pc' := 41) rfl rfl rfl ?_
              refine r_getv (pc' := 44) (v := (S 1 2)) rfl rfl (Or.inl rfl) rfl rfl ?_
              refine r_iload (pc' := 45) rfl rfl rfl ?_
              refine r_iadd (pc' := 46) rfl rfl ?_
              refine r_aldv (pc' := 47) (v := (S 2 ((S 1 2) + 4))) 200 rfl rfl rfl (by omega) rfl ?_
              have b14 : 0 ≤ S 2 ((S 1 2) + 4) ∧ S 2 ((S 1 2) + 4) ≤ 255 := hB 2 ((S 1 2) + 4)
              refine r_aload (pc' := 48) rfl rfl rfl ?_
              refine r_iload (pc' := 49) rfl rfl rfl ?_
              refine q_chr 4 4 (v := 115) rfl rfl rfl (by decide) rfl rfl rfl rfl rfl ?_
              by_cases h15 : (S 2 ((S 1 2) + 4)) = 115
              · refine r_icmp_eq1 (pc' := 57) rfl rfl (by omega) (by omega) ?_
                refine r_iinc (pc' := 60) (ls' := [some (.inr (.inr 1)), some (.inr (.inr (-7))), some (.inl 5)]) rfl rfl rfl rfl rfl ?_
                refine r_goto (pc' := 28) rfl rfl ?_
                refine r_iload (pc' := 29) rfl rfl rfl ?_
                refine r_aload (pc' := 30) rfl rfl rfl ?_
                refine q_len 4 (v := 6) rfl rfl (by decide) rfl rfl rfl rfl ?_
                refine r_icmp_ge0 (pc' := 36) rfl rfl (by decide) (by decide) ?_
                refine r_aload (pc' := 37) rfl rfl rfl ?_
                refine r_getr (pc' := 40) (v := 2) rfl rfl rfl rfl rfl ?_
                refine r_aload (pc' := 41) rfl rfl rfl ?_
                refine r_getv (pc' := 44) (v := (S 1 2)) rfl rfl (Or.inl rfl) rfl rfl ?_
                refine r_iload (pc' := 45) rfl rfl rfl ?_
                refine r_iadd (pc' := 46) rfl rfl ?_
                refine r_aldv (pc' := 47) (v := (S 2 ((S 1 2) + 5))) 200 rfl rfl rfl (by omega) rfl ?_
                have b16 : 0 ≤ S 2 ((S 1 2) + 5) ∧ S 2 ((S 1 2) + 5) ≤ 255 := hB 2 ((S 1 2) + 5)
                refine r_aload (pc' := 48) rfl rfl rfl ?_
                refine r_iload (pc' := 49) rfl rfl rfl ?_
                refine q_chr 4 5 (v := 104) rfl rfl rfl (by decide) rfl rfl rfl rfl rfl ?_
                by_cases h17 : (S 2 ((S 1 2) + 5)) = 104
                · refine r_icmp_eq1 (pc' := 57) rfl rfl (by omega) (by omega) ?_
                  refine r_iinc (pc' := 60) (ls' := [some (.inr (.inr 1)), some (.inr (.inr (-7))), some (.inl 6)]) rfl rfl rfl rfl rfl ?_
                  refine r_goto (pc' := 28) rfl rfl ?_
                  refine r_iload (pc' := 29) rfl rfl rfl ?_
                  refine r_aload (pc' := 30) rfl rfl rfl ?_
                  refine q_len 4 (v := 6) rfl rfl (by decide) rfl rfl rfl rfl ?_
                  refine r_icmp_ge1 (pc' := 63) rfl rfl (by decide) (by decide) ?_
                  refine r_const (pc' := 64) rfl rfl ?_
                  refine q_zret rfl rfl rfl (by omega) ?_
                  exact ⟨bi_t (by omega), rfl⟩
                · refine r_icmp_eq0 (pc' := 55) rfl rfl (by omega) (by omega) ?_
                  refine r_const (pc' := 56) rfl rfl ?_
                  refine q_zret rfl rfl rfl (by omega) ?_
                  exact ⟨bi_f (by omega), rfl⟩
              · refine r_icmp_eq0 (pc' := 55) rfl rfl (by omega) (by omega) ?_
                refine r_const (pc' := 56) rfl rfl ?_
                refine q_zret rfl rfl rfl (by omega) ?_
                exact ⟨bi_f (by omega), rfl⟩
            · refine r_icmp_eq0 (pc' := 55) rfl rfl (by omega) (by omega) ?_
              refine r_const (pc' := 56) rfl rfl ?_
              refine q_zret rfl rfl rfl (by omega) ?_
              exact ⟨bi_f (by omega), rfl⟩
          · refine r_icmp_eq0 (pc' := 55) rfl rfl (by omega) (by omega) ?_
            refine r_const (pc' := 56) rfl rfl ?_
            refine q_zret rfl rfl rfl (by omega) ?_
            exact ⟨bi_f (by omega), rfl⟩
        · refine r_icmp_eq0 (pc' := 55) rfl rfl (by omega) (by omega) ?_
          refine r_const (pc' := 56) rfl rfl ?_
          refine q_zret rfl rfl rfl (by omega) ?_
          exact ⟨bi_f (by omega), rfl⟩
      · refine r_icmp_eq0 (pc' := 55) rfl rfl (by omega) (by omega) ?_
        refine r_const (pc' := 56) rfl rfl ?_
        refine q_zret rfl rfl rfl (by omega) ?_
        exact ⟨bi_f (by omega), rfl⟩
    · refine r_icmp_eq0 (pc' := 24) rfl rfl (by omega) (by omega) ?_
      refine r_const (pc' := 25) rfl rfl ?_
      refine q_zret rfl rfl rfl (by omega) ?_
      exact ⟨bi_f (by omega), rfl⟩
  · refine r_icmp_ne1 (pc' := 24) rfl rfl (by omega) (by omega) ?_
    refine r_const (pc' := 25) rfl rfl ?_
    refine q_zret rfl rfl rfl (by omega) ?_
    exact ⟨bi_f (by omega), rfl⟩
theorem c_X8_isWord_5 {S : rS} (hB : Bd S) : CS 6 179 [.inr (.inr 1), .inr (.inr (-8))] S (fun r' S' => r' = some (.inl (bi (S 1 4 = 1 ∧ S 1 3 - S 1 2 = 4 ∧ S 2 (S 1 2 + 0) = 103 ∧ S 2 (S 1 2 + 1) = 97 ∧ S 2 (S 1 2 + 2) = 116 ∧ S 2 (S 1 2 + 3) = 101))) ∧ S' = S) := by
  refine RS.beg (ls := [some (.inr (.inr 1)), some (.inr (.inr (-8))), none]) rfl rfl rfl rfl rfl ?_
  have b12 : 0 ≤ S 1 2 ∧ S 1 2 ≤ 200 := hB 1 2
  have b13 : 0 ≤ S 1 3 ∧ S 1 3 ≤ 200 := hB 1 3
  refine r_aload (pc' := 1) rfl rfl rfl ?_
  refine r_getv (pc' := 4) (v := (S 1 4)) rfl rfl (Or.inl rfl) rfl rfl ?_
  have b1 : 0 ≤ S 1 4 ∧ S 1 4 ≤ 3 := hB 1 4
  refine r_const (pc' := 5) rfl rfl ?_
  by_cases h2 : (S 1 4) = 1
  · refine r_icmp_ne0 (pc' := 8) rfl rfl (by omega) (by omega) ?_
    refine r_aload (pc' := 9) rfl rfl rfl ?_
    refine r_getv (pc' := 12) (v := (S 1 3)) rfl rfl (Or.inl rfl) rfl rfl ?_
    have b3 : 0 ≤ S 1 3 ∧ S 1 3 ≤ 200 := hB 1 3
    refine r_aload (pc' := 13) rfl rfl rfl ?_
    refine r_getv (pc' := 16) (v := (S 1 2)) rfl rfl (Or.inl rfl) rfl rfl ?_
    have b4 : 0 ≤ S 1 2 ∧ S 1 2 ≤ 200 := hB 1 2
    refine r_isub (pc' := 17) rfl rfl ?_
    refine r_aload (pc' := 18) rfl rfl rfl ?_
    refine q_len 5 (v := 4) rfl rfl (by decide) rfl rfl rfl rfl ?_
    by_cases h5 : ((S 1 3) - (S 1 2)) = 4
    · refine r_icmp_eq1 (pc' := 26) rfl rfl (by omega) (by omega) ?_
      refine r_const (pc' := 27) rfl rfl ?_
      refine r_istore (pc' := 28) (ls' := [some (.inr (.inr 1)), some (.inr (.inr (-8))), some (.inl 0)]) rfl rfl rfl rfl ?_
      refine r_iload (pc' := 29) rfl rfl rfl ?_
      refine r_aload (pc' := 30) rfl rfl rfl ?_
      refine q_len 5 (v := 4) rfl rfl (by decide) rfl rfl rfl rfl ?_
      refine r_icmp_ge0 (pc' := 36) rfl rfl (by decide) (by decide) ?_
      refine r_aload (pc' := 37) rfl rfl rfl ?_
      refine r_getr (pc' := 40) (v := 2) rfl rfl rfl rfl rfl ?_
      refine r_aload (pc' := 41) rfl rfl rfl ?_
      refine r_getv (pc' := 44) (v := (S 1 2)) rfl rfl (Or.inl rfl) rfl rfl ?_
      refine r_iload (pc' := 45) rfl rfl rfl ?_
      refine r_iadd (pc' := 46) rfl rfl ?_
      refine r_aldv (pc' := 47) (v := (S 2 ((S 1 2) + 0))) 200 rfl rfl rfl (by omega) rfl ?_
      have b6 : 0 ≤ S 2 ((S 1 2) + 0) ∧ S 2 ((S 1 2) + 0) ≤ 255 := hB 2 ((S 1 2) + 0)
      refine r_aload (pc' := 48) rfl rfl rfl ?_
      refine r_iload (pc' := 49) rfl rfl rfl ?_
      refine q_chr 5 0 (v := 103) rfl rfl rfl (by decide) rfl rfl rfl rfl rfl ?_
      by_cases h7 : (S 2 ((S 1 2) + 0)) = 103
      · refine r_icmp_eq1 (pc' := 57) rfl rfl (by omega) (by omega) ?_
        refine r_iinc (pc' := 60) (ls' := [some (.inr (.inr 1)), some (.inr (.inr (-8))), some (.inl 1)]) rfl rfl rfl rfl rfl ?_
        refine r_goto (pc' := 28) rfl rfl ?_
        refine r_iload (pc' := 29) rfl rfl rfl ?_
        refine r_aload (pc' := 30) rfl rfl rfl ?_
        refine q_len 5 (v := 4) rfl rfl (by decide) rfl rfl rfl rfl ?_
        refine r_icmp_ge0 (pc' := 36) rfl rfl (by decide) (by decide) ?_
        refine r_aload (pc' := 37) rfl rfl rfl ?_
        refine r_getr (pc' := 40) (v := 2) rfl rfl rfl rfl rfl ?_
        refine r_aload (pc' := 41) rfl rfl rfl ?_
        refine r_getv (pc' := 44) (v := (S 1 2)) rfl rfl (Or.inl rfl) rfl rfl ?_
        refine r_iload (pc' := 45) rfl rfl rfl ?_
        refine r_iadd (pc' := 46) rfl rfl ?_
        refine r_aldv (pc' := 47) (v := (S 2 ((S 1 2) + 1))) 200 rfl rfl rfl (by omega) rfl ?_
        have b8 : 0 ≤ S 2 ((S 1 2) + 1) ∧ S 2 ((S 1 2) + 1) ≤ 255 := hB 2 ((S 1 2) + 1)
        refine r_aload (pc' := 48) rfl rfl rfl ?_
        refine r_iload (pc' := 49) rfl rfl rfl ?_
        refine q_chr 5 1 (v := 97) rfl rfl rfl (by decide) rfl rfl rfl rfl rfl ?_
        by_cases h9 : (S 2 ((S 1 2) + 1)) = 97
        · refine r_icmp_eq1 (pc' := 57) rfl rfl (by omega) (by omega) ?_
          refine r_iinc (pc' := 60) (ls' := [some (.inr (.inr 1)), some (.inr (.inr (-8))), some (.inl 2)]) rfl rfl rfl rfl rfl ?_
          refine r_goto (pc' := 28) rfl rfl ?_
          refine r_iload (pc' := 29) rfl rfl rfl ?_
          refine r_aload (pc' := 30) rfl rfl rfl ?_
          refine q_len 5 (v := 4) rfl rfl (by decide) rfl rfl rfl rfl ?_
          refine r_icmp_ge0 (pc' := 36) rfl rfl (by decide) (by decide) ?_
          refine r_aload (pc' := 37) rfl rfl rfl ?_
          refine r_getr (pc' := 40) (v := 2) rfl rfl rfl rfl rfl ?_
          refine r_aload (pc' := 41) rfl rfl rfl ?_
          refine r_getv (pc' := 44) (v := (S 1 2)) rfl rfl (Or.inl rfl) rfl rfl ?_
          refine r_iload (pc' := 45) rfl rfl rfl ?_
          refine r_iadd (pc' := 46) rfl rfl ?_
          refine r_aldv (pc' := 47) (v := (S 2 ((S 1 2) + 2))) 200 rfl rfl rfl (by omega) rfl ?_
          have b10 : 0 ≤ S 2 ((S 1 2) + 2) ∧ S 2 ((S 1 2) + 2) ≤ 255 := hB 2 ((S 1 2) + 2)
          refine r_aload (pc' := 48) rfl rfl rfl ?_
          refine r_iload (pc' := 49) rfl rfl rfl ?_
          refine q_chr 5 2 (v := 116) rfl rfl rfl (by decide) rfl rfl rfl rfl rfl ?_
          by_cases h11 : (S 2 ((S 1 2) + 2)) = 116
          · refine r_icmp_eq1 (pc' := 57) rfl rfl (by omega) (by omega) ?_
            refine r_iinc (pc' := 60) (ls' := [some (.inr (.inr 1)), some (.inr (.inr (-8))), some (.inl 3)]) rfl rfl rfl rfl rfl ?_
            refine r_goto (pc' := 28) rfl rfl ?_
            refine r_iload (pc' := 29) rfl rfl rfl ?_
            refine r_aload (pc' := 30) rfl rfl rfl ?_
            refine q_len 5 (v := 4) rfl rfl (by decide) rfl rfl rfl rfl ?_
            refine r_icmp_ge0 (pc' := 36) rfl rfl (by decide) (by decide) ?_
            refine r_aload (pc' := 37) rfl rfl rfl ?_
            refine r_getr (pc' := 40) (v := 2) rfl rfl rfl rfl rfl ?_
            refine r_aload (pc' := 41) rfl rfl rfl ?_
            refine r_getv (pc' := 44) (v := (S 1 2)) rfl rfl (Or.inl rfl) rfl rfl ?_
            refine r_iload (pc' := 45) rfl rfl rfl ?_
            refine r_iadd (pc' := 46) rfl rfl ?_
            refine r_aldv (pc' := 47) (v := (S 2 ((S 1 2) + 3))) 200 rfl rfl rfl (by omega) rfl ?_
            have b12 : 0 ≤ S 2 ((S 1 2) + 3) ∧ S 2 ((S 1 2) + 3) ≤ 255 := hB 2 ((S 1 2) + 3)
            refine r_aload (pc' := 48) rfl rfl rfl ?_
            refine r_iload (pc' := 49) rfl rfl rfl ?_
            refine q_chr 5 3 (v := 101) rfl rfl rfl (by decide) rfl rfl rfl rfl rfl ?_
            by_cases h13 : (S 2 ((S 1 2) + 3)) = 101
            · refine r_icmp_eq1 (pc' := 57) rfl rfl (by omega) (by omega) ?_
              refine r_iinc (pc' := 60) (ls' := [some (.inr (.inr 1)), some (.inr (.inr (-8))), some (.inl 4)]) rfl rfl rfl rfl rfl ?_
              refine r_goto (pc' := 28) rfl rfl ?_
              refine r_iload (pc' := 29) rfl rfl rfl ?_
              refine r_aload (pc' := 30) rfl rfl rfl ?_
              refine q_len 5 (v := 4) rfl rfl (by decide) rfl rfl rfl rfl ?_
              refine r_icmp_ge1 (pc' := 63) rfl rfl (by decide) (by decide) ?_
              refine r_const (pc' := 64) rfl rfl ?_
              refine q_zret rfl rfl rfl (by omega) ?_
              exact ⟨bi_t (by omega), rfl⟩
            · refine r_icmp_eq0 (pc' := 55) rfl rfl (by omega) (by omega) ?_
              refine r_const (pc' := 56) rfl rfl ?_
              refine q_zret rfl rfl rfl (by omega) ?_
              exact ⟨bi_f (by omega), rfl⟩
          · refine r_icmp_eq0 (pc' := 55) rfl rfl (by omega) (by omega) ?_
            refine r_const (pc' := 56) rfl rfl ?_
            refine q_zret rfl rfl rfl (by omega) ?_
            exact ⟨bi_f (by omega), rfl⟩
        · refine r_icmp_eq0 (pc' := 55) rfl rfl (by omega) (by omega) ?_
          refine r_const (pc' := 56) rfl rfl ?_
          refine q_zret rfl rfl rfl (by omega) ?_
          exact ⟨bi_f (by omega), rfl⟩
      · refine r_icmp_eq0 (pc' := 55) rfl rfl (by omega) (by omega) ?_
        refine r_const (pc' := 56) rfl rfl ?_
        refine q_zret rfl rfl rfl (by omega) ?_
        exact ⟨bi_f (by omega), rfl⟩
    · refine r_icmp_eq0 (pc' := 24) rfl rfl (by omega) (by omega) ?_
      refine r_const (pc' := 25) rfl rfl ?_
      refine q_zret rfl rfl rfl (by omega) ?_
      exact ⟨bi_f (by omega), rfl⟩
  · refine r_icmp_ne1 (pc' := 24) rfl rfl (by omega) (by omega) ?_
    refine r_const (pc' := 25) rfl rfl ?_
    refine q_zret rfl rfl rfl (by omega) ?_
    exact ⟨bi_f (by omega), rfl⟩
theorem c_X8_isWord_6 {S : rS} (hB : Bd S) : CS 6 179 [.inr (.inr 1), .inr (.inr (-9))] S (fun r' S' => r' = some (.inl (bi (S 1 4 = 1 ∧ S 1 3 - S 1 2 = 4 ∧ S 2 (S 1 2 + 0) = 119 ∧ S 2 (S 1 2 + 1) = 111 ∧ S 2 (S 1 2 + 2) = 114 ∧ S 2 (S 1 2 + 3) = 100))) ∧ S' = S) := by
  refine RS.beg (ls := [some (.inr (.inr 1)), some (.inr (.inr (-9))), none]) rfl rfl rfl rfl rfl ?_
  have b12 : 0 ≤ S 1 2 ∧ S 1 2 ≤ 200 := hB 1 2
  have b13 : 0 ≤ S 1 3 ∧ S 1 3 ≤ 200 := hB 1 3
  refine r_aload (pc' := 1) rfl rfl rfl ?_
  refine r_getv (pc' := 4) (v := (S 1 4)) rfl rfl (Or.inl rfl) rfl rfl ?_
  have b1 : 0 ≤ S 1 4 ∧ S 1 4 ≤ 3 := hB 1 4
  refine r_const (pc' := 5) rfl rfl ?_
  by_cases h2 : (S 1 4) = 1
  · refine r_icmp_ne0 (pc' := 8) rfl rfl (by omega) (by omega) ?_
    refine r_aload (pc' := 9) rfl rfl rfl ?_
    refine r_getv (pc' := 12) (v := (S 1 3)) rfl rfl (Or.inl rfl) rfl rfl ?_
    have b3 : 0 ≤ S 1 3 ∧ S 1 3 ≤ 200 := hB 1 3
    refine r_aload (pc' := 13) rfl rfl rfl ?_
    refine r_getv (pc' := 16) (v := (S 1 2)) rfl rfl (Or.inl rfl) rfl rfl ?_
    have b4 : 0 ≤ S 1 2 ∧ S 1 2 ≤ 200 := hB 1 2
    refine r_isub (pc' := 17) rfl rfl ?_
    refine r_aload (pc' := 18) rfl rfl rfl ?_
    refine q_len 6 (v := 4) rfl rfl (by decide) rfl rfl rfl rfl ?_
    by_cases h5 : ((S 1 3) - (S 1 2)) = 4
    · refine r_icmp_eq1 (pc' := 26) rfl rfl (by omega) (by omega) ?_
      refine r_const (pc' := 27) rfl rfl ?_
      refine r_istore (pc' := 28) (ls' := [some (.inr (.inr 1)), some (.inr (.inr (-9))), some (.inl 0)]) rfl rfl rfl rfl ?_
      refine r_iload (pc' := 29) rfl rfl rfl ?_
      refine r_aload (pc' := 30) rfl rfl rfl ?_
      refine q_len 6 (v := 4) rfl rfl (by decide) rfl rfl rfl rfl ?_
      refine r_icmp_ge0 (pc' := 36) rfl rfl (by decide) (by decide) ?_
      refine r_aload (pc' := 37) rfl rfl rfl ?_
      refine r_getr (pc' := 40) (v := 2) rfl rfl rfl rfl rfl ?_
      refine r_aload (pc' := 41) rfl rfl rfl ?_
      refine r_getv (pc' := 44) (v := (S 1 2)) rfl rfl (Or.inl rfl) rfl rfl ?_
      refine r_iload (pc' := 45) rfl rfl rfl ?_
      refine r_iadd (pc' := 46) rfl rfl ?_
      refine r_aldv (pc' := 47) (v := (S 2 ((S 1 2) + 0))) 200 rfl rfl rfl (by omega) rfl ?_
      have b6 : 0 ≤ S 2 ((S 1 2) + 0) ∧ S 2 ((S 1 2) + 0) ≤ 255 := hB 2 ((S 1 2) + 0)
      refine r_aload (pc' := 48) rfl rfl rfl ?_
      refine r_iload (pc' := 49) rfl rfl rfl ?_
      refine q_chr 6 0 (v := 119) rfl rfl rfl (by decide) rfl rfl rfl rfl rfl ?_
      by_cases h7 : (S 2 ((S 1 2) + 0)) = 119
      · refine r_icmp_eq1 (pc' := 57) rfl rfl (by omega) (by omega) ?_
        refine r_iinc (pc' := 60) (ls' := [some (.inr (.inr 1)), some (.inr (.inr (-9))), some (.inl 1)]) rfl rfl rfl rfl rfl ?_
        refine r_goto (pc' := 28) rfl rfl ?_
        refine r_iload (pc' := 29) rfl rfl rfl ?_
        refine r_aload (pc' := 30) rfl rfl rfl ?_
        refine q_len 6 (v := 4) rfl rfl (by decide) rfl rfl rfl rfl ?_
        refine r_icmp_ge0 (pc' := 36) rfl rfl (by decide) (by decide) ?_
        refine r_aload (pc' := 37) rfl rfl rfl ?_
        refine r_getr (pc' := 40) (v := 2) rfl rfl rfl rfl rfl ?_
        refine r_aload (pc' := 41) rfl rfl rfl ?_
        refine r_getv (pc' := 44) (v := (S 1 2)) rfl rfl (Or.inl rfl) rfl rfl ?_
        refine r_iload (pc' := 45) rfl rfl rfl ?_
        refine r_iadd (pc' := 46) rfl rfl ?_
        refine r_aldv (pc' := 47) (v := (S 2 ((S 1 2) + 1))) 200 rfl rfl rfl (by omega) rfl ?_
        have b8 : 0 ≤ S 2 ((S 1 2) + 1) ∧ S 2 ((S 1 2) + 1) ≤ 255 := hB 2 ((S 1 2) + 1)
        refine r_aload (pc' := 48) rfl rfl rfl ?_
        refine r_iload (pc' := 49) rfl rfl rfl ?_
        refine q_chr 6 1 (v := 111) rfl rfl rfl (by decide) rfl rfl rfl rfl rfl ?_
        by_cases h9 : (S 2 ((S 1 2) + 1)) = 111
        · refine r_icmp_eq1 (pc' := 57) rfl rfl (by omega) (by omega) ?_
          refine r_iinc (pc' := 60) (ls' := [some (.inr (.inr 1)), some (.inr (.inr (-9))), some (.inl 2)]) rfl rfl rfl rfl rfl ?_
          refine r_goto (pc' := 28) rfl rfl ?_
          refine r_iload (pc' := 29) rfl rfl rfl ?_
          refine r_aload (pc' := 30) rfl rfl rfl ?_
          refine q_len 6 (v := 4) rfl rfl (by decide) rfl rfl rfl rfl ?_
          refine r_icmp_ge0 (pc' := 36) rfl rfl (by decide) (by decide) ?_
          refine r_aload (pc' := 37) rfl rfl rfl ?_
          refine r_getr (pc' := 40) (v := 2) rfl rfl rfl rfl rfl ?_
          refine r_aload (pc' := 41) rfl rfl rfl ?_
          refine r_getv (pc' := 44) (v := (S 1 2)) rfl rfl (Or.inl rfl) rfl rfl ?_
          refine r_iload (pc' := 45) rfl rfl rfl ?_
          refine r_iadd (pc' := 46) rfl rfl ?_
          refine r_aldv (pc' := 47) (v := (S 2 ((S 1 2) + 2))) 200 rfl rfl rfl (by omega) rfl ?_
          have b10 : 0 ≤ S 2 ((S 1 2) + 2) ∧ S 2 ((S 1 2) + 2) ≤ 255 := hB 2 ((S 1 2) + 2)
          refine r_aload (pc' := 48) rfl rfl rfl ?_
          refine r_iload (pc' := 49) rfl rfl rfl ?_
          refine q_chr 6 2 (v := 114) rfl rfl rfl (by decide) rfl rfl rfl rfl rfl ?_
          by_cases h11 : (S 2 ((S 1 2) + 2)) = 114
          · refine r_icmp_eq1 (pc' := 57) rfl rfl (by omega) (by omega) ?_
            refine r_iinc (pc' := 60) (ls' := [some (.inr (.inr 1)), some (.inr (.inr (-9))), some (.inl 3)]) rfl rfl rfl rfl rfl ?_
            refine r_goto (pc' := 28) rfl rfl ?_
            refine r_iload (pc' := 29) rfl rfl rfl ?_
            refine r_aload (pc' := 30) rfl rfl rfl ?_
            refine q_len 6 (v := 4) rfl rfl (by decide) rfl rfl rfl rfl ?_
            refine r_icmp_ge0 (pc' := 36) rfl rfl (by decide) (by decide) ?_
            refine r_aload (pc' := 37) rfl rfl rfl ?_
            refine r_getr (pc' := 40) (v := 2) rfl rfl rfl rfl rfl ?_
            refine r_aload (pc' := 41) rfl rfl rfl ?_
            refine r_getv (pc' := 44) (v := (S 1 2)) rfl rfl (Or.inl rfl) rfl rfl ?_
            refine r_iload (pc' := 45) rfl rfl rfl ?_
            refine r_iadd (pc' := 46) rfl rfl ?_
            refine r_aldv (pc' := 47) (v := (S 2 ((S 1 2) + 3))) 200 rfl rfl rfl (by omega) rfl ?_
            have b12 : 0 ≤ S 2 ((S 1 2) + 3) ∧ S 2 ((S 1 2) + 3) ≤ 255 := hB 2 ((S 1 2) + 3)
            refine r_aload (pc' := 48) rfl rfl rfl ?_
            refine r_iload (pc' := 49) rfl rfl rfl ?_
            refine q_chr 6 3 (v := 100) rfl rfl rfl (by decide) rfl rfl rfl rfl rfl ?_
            by_cases h13 : (S 2 ((S 1 2) + 3)) = 100
            · refine r_icmp_eq1 (pc' := 57) rfl rfl (by omega) (by omega) ?_
              refine r_iinc (pc' := 60) (ls' := [some (.inr (.inr 1)), some (.inr (.inr (-9))), some (.inl 4)]) rfl rfl rfl rfl rfl ?_
              refine r_goto (pc' := 28) rfl rfl ?_
              refine r_iload (pc' := 29) rfl rfl rfl ?_
              refine r_aload (pc' := 30) rfl rfl rfl ?_
              refine q_len 6 (v := 4) rfl rfl (by decide) rfl rfl rfl rfl ?_
              refine r_icmp_ge1 (pc' := 63) rfl rfl (by decide) (by decide) ?_
              refine r_const (pc' := 64) rfl rfl ?_
              refine q_zret rfl rfl rfl (by omega) ?_
              exact ⟨bi_t (by omega), rfl⟩
            · refine r_icmp_eq0 (pc' := 55) rfl rfl (by omega) (by omega) ?_
              refine r_const (pc' := 56) rfl rfl ?_
              refine q_zret rfl rfl rfl (by omega) ?_
              exact ⟨bi_f (by omega), rfl⟩
          · refine r_icmp_eq0 (pc' := 55) rfl rfl (by omega) (by omega) ?_
            refine r_const (pc' := 56) rfl rfl ?_
            refine q_zret rfl rfl rfl (by omega) ?_
            exact ⟨bi_f (by omega), rfl⟩
        · refine r_icmp_eq0 (pc' := 55) rfl rfl (by omega) (by omega) ?_
          refine r_const (pc' := 56) rfl rfl ?_
          refine q_zret rfl rfl rfl (by omega) ?_
          exact ⟨bi_f (by omega), rfl⟩
      · refine r_icmp_eq0 (pc' := 55) rfl rfl (by omega) (by omega) ?_
        refine r_const (pc' := 56) rfl rfl ?_
        refine q_zret rfl rfl rfl (by omega) ?_
        exact ⟨bi_f (by omega), rfl⟩
    · refine r_icmp_eq0 (pc' := 24) rfl rfl (by omega) (by omega) ?_
      refine r_const (pc' := 25) rfl rfl ?_
      refine q_zret rfl rfl rfl (by omega) ?_
      exact ⟨bi_f (by omega), rfl⟩
  · refine r_icmp_ne1 (pc' := 24) rfl rfl (by omega) (by omega) ?_
    refine r_const (pc' := 25) rfl rfl ?_
    refine q_zret rfl rfl rfl (by omega) ?_
    exact ⟨bi_f (by omega), rfl⟩
theorem c_X8_isWord_7 {S : rS} (hB : Bd S) : CS 6 179 [.inr (.inr 1), .inr (.inr (-10))] S (fun r' S' => r' = some (.inl (bi (S 1 4 = 1 ∧ S 1 3 - S 1 2 = 4 ∧ S 2 (S 1 2 + 0) = 100 ∧ S 2 (S 1 2 + 1) = 97 ∧ S 2 (S 1 2 + 2) = 114 ∧ S 2 (S 1 2 + 3) = 107))) ∧ S' = S) := by
  refine RS.beg (ls := [some (.inr (.inr 1)), some (.inr (.inr (-10))), none]) rfl rfl rfl rfl rfl ?_
  have b12 : 0 ≤ S 1 2 ∧ S 1 2 ≤ 200 := hB 1 2
  have b13 : 0 ≤ S 1 3 ∧ S 1 3 ≤ 200 := hB 1 3
  refine r_aload (pc' := 1) rfl rfl rfl ?_
  refine r_getv (pc' := 4) (v := (S 1 4)) rfl rfl (Or.inl rfl) rfl rfl ?_
  have b1 : 0 ≤ S 1 4 ∧ S 1 4 ≤ 3 := hB 1 4
  refine r_const (pc' := 5) rfl rfl ?_
  by_cases h2 : (S 1 4) = 1
  · refine r_icmp_ne0 (pc' := 8) rfl rfl (by omega) (by omega) ?_
    refine r_aload (pc' := 9) rfl rfl rfl ?_
    refine r_getv (pc' := 12) (v := (S 1 3)) rfl rfl (Or.inl rfl) rfl rfl ?_
    have b3 : 0 ≤ S 1 3 ∧ S 1 3 ≤ 200 := hB 1 3
    refine r_aload (pc' := 13) rfl rfl rfl ?_
    refine r_getv (pc' := 16) (v := (S 1 2)) rfl rfl (Or.inl rfl) rfl rfl ?_
    have b4 : 0 ≤ S 1 2 ∧ S 1 2 ≤ 200 := hB 1 2
    refine r_isub (pc' := 17) rfl rfl ?_
    refine r_aload (pc' := 18) rfl rfl rfl ?_
    refine q_len 7 (v := 4) rfl rfl (by decide) rfl rfl rfl rfl ?_
    by_cases h5 : ((S 1 3) - (S 1 2)) = 4
    · refine r_icmp_eq1 (pc' := 26) rfl rfl (by omega) (by omega) ?_
      refine r_const (pc' := 27) rfl rfl ?_
      refine r_istore (pc' := 28) (ls' := [some (.inr (.inr 1)), some (.inr (.inr (-10))), some (.inl 0)]) rfl rfl rfl rfl ?_
      refine r_iload (pc' := 29) rfl rfl rfl ?_
      refine r_aload (pc' := 30) rfl rfl rfl ?_
      refine q_len 7 (v := 4) rfl rfl (by decide) rfl rfl rfl rfl ?_
      refine r_icmp_ge0 (pc' := 36) rfl rfl (by decide) (by decide) ?_
      refine r_aload (pc' := 37) rfl rfl rfl ?_
      refine r_getr (pc' := 40) (v := 2) rfl rfl rfl rfl rfl ?_
      refine r_aload (pc' := 41) rfl rfl rfl ?_
      refine r_getv (pc' := 44) (v := (S 1 2)) rfl rfl (Or.inl rfl) rfl rfl ?_
      refine r_iload (pc' := 45) rfl rfl rfl ?_
      refine r_iadd (pc' := 46) rfl rfl ?_
      refine r_aldv (pc' := 47) (v := (S 2 ((S 1 2) + 0))) 200 rfl rfl rfl (by omega) rfl ?_
      have b6 : 0 ≤ S 2 ((S 1 2) + 0) ∧ S 2 ((S 1 2) + 0) ≤ 255 := hB 2 ((S 1 2) + 0)
      refine r_aload (pc' := 48) rfl rfl rfl ?_
      refine r_iload (pc' := 49) rfl rfl rfl ?_
      refine q_chr 7 0 (v := 100) rfl rfl rfl (by decide) rfl rfl rfl rfl rfl ?_
      by_cases h7 : (S 2 ((S 1 2) + 0)) = 100
      · refine r_icmp_eq1 (pc' := 57) rfl rfl (by omega) (by omega) ?_
        refine r_iinc (pc' := 60) (ls' := [some (.inr (.inr 1)), some (.inr (.inr (-10))), some (.inl 1)]) rfl rfl rfl rfl rfl ?_
        refine r_goto (pc' := 28) rfl rfl ?_
        refine r_iload (pc' := 29) rfl rfl rfl ?_
        refine r_aload (pc' := 30) rfl rfl rfl ?_
        refine q_len 7 (v := 4) rfl rfl (by decide) rfl rfl rfl rfl ?_
        refine r_icmp_ge0 (pc' := 36) rfl rfl (by decide) (by decide) ?_
        refine r_aload (pc' := 37) rfl rfl rfl ?_
        refine r_getr (pc' := 40) (v := 2) rfl rfl rfl rfl rfl ?_
        refine r_aload (pc' := 41) rfl rfl rfl ?_
        refine r_getv (pc' := 44) (v := (S 1 2)) rfl rfl (Or.inl rfl) rfl rfl ?_
        refine r_iload (pc' := 45) rfl rfl rfl ?_
        refine r_iadd (pc' := 46) rfl rfl ?_
        refine r_aldv (pc' := 47) (v := (S 2 ((S 1 2) + 1))) 200 rfl rfl rfl (by omega) rfl ?_
        have b8 : 0 ≤ S 2 ((S 1 2) + 1) ∧ S 2 ((S 1 2) + 1) ≤ 255 := hB 2 ((S 1 2) + 1)
        refine r_aload (pc' := 48) rfl rfl rfl ?_
        refine r_iload (pc' := 49) rfl rfl rfl ?_
        refine q_chr 7 1 (v := 97) rfl rfl rfl (by decide) rfl rfl rfl rfl rfl ?_
        by_cases h9 : (S 2 ((S 1 2) + 1)) = 97
        · refine r_icmp_eq1 (pc' := 57) rfl rfl (by omega) (by omega) ?_
          refine r_iinc (pc' := 60) (ls' := [some (.inr (.inr 1)), some (.inr (.inr (-10))), some (.inl 2)]) rfl rfl rfl rfl rfl ?_
          refine r_goto (pc' := 28) rfl rfl ?_
          refine r_iload (pc' := 29) rfl rfl rfl ?_
          refine r_aload (pc' := 30) rfl rfl rfl ?_
          refine q_len 7 (v := 4) rfl rfl (by decide) rfl rfl rfl rfl ?_
          refine r_icmp_ge0 (pc' := 36) rfl rfl (by decide) (by decide) ?_
          refine r_aload (pc' := 37) rfl rfl rfl ?_
          refine r_getr (pc' := 40) (v := 2) rfl rfl rfl rfl rfl ?_
          refine r_aload (pc' := 41) rfl rfl rfl ?_
          refine r_getv (pc' := 44) (v := (S 1 2)) rfl rfl (Or.inl rfl) rfl rfl ?_
          refine r_iload (pc' := 45) rfl rfl rfl ?_
          refine r_iadd (pc' := 46) rfl rfl ?_
          refine r_aldv (pc' := 47) (v := (S 2 ((S 1 2) + 2))) 200 rfl rfl rfl (by omega) rfl ?_
          have b10 : 0 ≤ S 2 ((S 1 2) + 2) ∧ S 2 ((S 1 2) + 2) ≤ 255 := hB 2 ((S 1 2) + 2)
          refine r_aload (pc' := 48) rfl rfl rfl ?_
          refine r_iload (pc' := 49) rfl rfl rfl ?_
          refine q_chr 7 2 (v := 114) rfl rfl rfl (by decide) rfl rfl rfl rfl rfl ?_
          by_cases h11 : (S 2 ((S 1 2) + 2)) = 114
          · refine r_icmp_eq1 (pc' := 57) rfl rfl (by omega) (by omega) ?_
            refine r_iinc (pc' := 60) (ls' := [some (.inr (.inr 1)), some (.inr (.inr (-10))), some (.inl 3)]) rfl rfl rfl rfl rfl ?_
            refine r_goto (pc' := 28) rfl rfl ?_
            refine r_iload (pc' := 29) rfl rfl rfl ?_
            refine r_aload (pc' := 30) rfl rfl rfl ?_
            refine q_len 7 (v := 4) rfl rfl (by decide) rfl rfl rfl rfl ?_
            refine r_icmp_ge0 (pc' := 36) rfl rfl (by decide) (by decide) ?_
            refine r_aload (pc' := 37) rfl rfl rfl ?_
            refine r_getr (pc' := 40) (v := 2) rfl rfl rfl rfl rfl ?_
            refine r_aload (pc' := 41) rfl rfl rfl ?_
            refine r_getv (pc' := 44) (v := (S 1 2)) rfl rfl (Or.inl rfl) rfl rfl ?_
            refine r_iload (pc' := 45) rfl rfl rfl ?_
            refine r_iadd (pc' := 46) rfl rfl ?_
            refine r_aldv (pc' := 47) (v := (S 2 ((S 1 2) + 3))) 200 rfl rfl rfl (by omega) rfl ?_
            have b12 : 0 ≤ S 2 ((S 1 2) + 3) ∧ S 2 ((S 1 2) + 3) ≤ 255 := hB 2 ((S 1 2) + 3)
            refine r_aload (pc' := 48) rfl rfl rfl ?_
            refine r_iload (pc' := 49) rfl rfl rfl ?_
            refine q_chr 7 3 (v := 107) rfl rfl rfl (by decide) rfl rfl rfl rfl rfl ?_
            by_cases h13 : (S 2 ((S 1 2) + 3)) = 107
            · refine r_icmp_eq1 (pc' := 57) rfl rfl (by omega) (by omega) ?_
              refine r_iinc (pc' := 60) (ls' := [some (.inr (.inr 1)), some (.inr (.inr (-10))), some (.inl 4)]) rfl rfl rfl rfl rfl ?_
              refine r_goto (pc' := 28) rfl rfl ?_
              refine r_iload (pc' := 29) rfl rfl rfl ?_
              refine r_aload (pc' := 30) rfl rfl rfl ?_
              refine q_len 7 (v := 4) rfl rfl (by decide) rfl rfl rfl rfl ?_
              refine r_icmp_ge1 (pc' := 63) rfl rfl (by decide) (by decide) ?_
              refine r_const (pc' := 64) rfl rfl ?_
              refine q_zret rfl rfl rfl (by omega) ?_
              exact ⟨bi_t (by omega), rfl⟩
            · refine r_icmp_eq0 (pc' := 55) rfl rfl (by omega) (by omega) ?_
              refine r_const (pc' := 56) rfl rfl ?_
              refine q_zret rfl rfl rfl (by omega) ?_
              exact ⟨bi_f (by omega), rfl⟩
          · refine r_icmp_eq0 (pc' := 55) rfl rfl (by omega) (by omega) ?_
            refine r_const (pc' := 56) rfl rfl ?_
            refine q_zret rfl rfl rfl (by omega) ?_
            exact ⟨bi_f (by omega), rfl⟩
        · refine r_icmp_eq0 (pc' := 55) rfl rfl (by omega) (by omega) ?_
          refine r_const (pc' := 56) rfl rfl ?_
          refine q_zret rfl rfl rfl (by omega) ?_
          exact ⟨bi_f (by omega), rfl⟩
      · refine r_icmp_eq0 (pc' := 55) rfl rfl (by omega) (by omega) ?_
        refine r_const (pc' := 56) rfl rfl ?_
        refine q_zret rfl rfl rfl (by omega) ?_
        exact ⟨bi_f (by omega), rfl⟩
    · refine r_icmp_eq0 (pc' := 24) rfl rfl (by omega) (by omega) ?_
      refine r_const (pc' := 25) rfl rfl ?_
      refine q_zret rfl rfl rfl (by omega) ?_
      exact ⟨bi_f (by omega), rfl⟩
  · refine r_icmp_ne1 (pc' := 24) rfl rfl (by omega) (by omega) ?_
    refine r_const (pc' := 25) rfl rfl ?_
    refine q_zret rfl rfl rfl (by omega) ?_
    exact ⟨bi_f (by omega), rfl⟩
noncomputable def v_X0_clauseSort (S : rS) : Int := if S 1 4 = 1 ∧ S 1 3 - S 1 2 = 5 ∧ S 2 (S 1 2 + 0) = 116 ∧ S 2 (S 1 2 + 1) = 104 ∧ S 2 (S 1 2 + 2) = 111 ∧ S 2 (S 1 2 + 3) = 114 ∧ S 2 (S 1 2 + 4) = 110 then 0 else if S 1 4 = 1 ∧ S 1 3 - S 1 2 = 5 ∧ S 2 (S 1 2 + 0) = 104 ∧ S 2 (S 1 2 + 1) = 111 ∧ S 2 (S 1 2 + 2) = 108 ∧ S 2 (S 1 2 + 3) = 108 ∧ S 2 (S 1 2 + 4) = 121 then 1 else if S 1 4 = 1 ∧ S 1 3 - S 1 2 = 7 ∧ S 2 (S 1 2 + 0) = 98 ∧ S 2 (S 1 2 + 1) = 114 ∧ S 2 (S 1 2 + 2) = 97 ∧ S 2 (S 1 2 + 3) = 109 ∧ S 2 (S 1 2 + 4) = 98 ∧ S 2 (S 1 2 + 5) = 108 ∧ S 2 (S 1 2 + 6) = 101 then 2 else if S 1 4 = 1 ∧ S 1 3 - S 1 2 = 5 ∧ S 2 (S 1 2 + 0) = 104 ∧ S 2 (S 1 2 + 1) = 97 ∧ S 2 (S 1 2 + 2) = 122 ∧ S 2 (S 1 2 + 3) = 101 ∧ S 2 (S 1 2 + 4) = 108 then 3 else if S 1 4 = 1 ∧ S 1 3 - S 1 2 = 6 ∧ S 2 (S 1 2 + 0) = 112 ∧ S 2 (S 1 2 + 1) = 97 ∧ S 2 (S 1 2 + 2) = 114 ∧ S 2 (S 1 2 + 3) = 105 ∧ S 2 (S 1 2 + 4) = 115 ∧ S 2 (S 1 2 + 5) = 104 then 4 else if S 1 4 = 1 ∧ S 1 3 - S 1 2 = 4 ∧ S 2 (S 1 2 + 0) = 103 ∧ S 2 (S 1 2 + 1) = 97 ∧ S 2 (S 1 2 + 2) = 116 ∧ S 2 (S 1 2 + 3) = 101 then 5 else if S 1 4 = 1 ∧ S 1 3 - S 1 2 = 4 ∧ S 2 (S 1 2 + 0) = 119 ∧ S 2 (S 1 2 + 1) = 111 ∧ S 2 (S 1 2 + 2) = 114 ∧ S 2 (S 1 2 + 3) = 100 then 6 else if S 1 4 = 1 ∧ S 1 3 - S 1 2 = 4 ∧ S 2 (S 1 2 + 0) = 100 ∧ S 2 (S 1 2 + 1) = 97 ∧ S 2 (S 1 2 + 2) = 114 ∧ S 2 (S 1 2 + 3) = 107 then 7 else (-1)
theorem c_X0_clauseSort {S : rS} (hB : Bd S) : CS 7 2 [.inr (.inr 3)] S (fun r' S' => r' = some (.inl (v_X0_clauseSort S )) ∧ S' = S) := by
  refine RS.beg (ls := [some (.inr (.inr 3))]) rfl rfl rfl rfl rfl ?_
  refine r_aload (pc' := 1) rfl rfl rfl ?_
  refine r_getr (pc' := 4) (v := 1) rfl rfl rfl rfl rfl ?_
  refine r_ldc (pc' := 6) (v := -3) rfl rfl (by decide) ?_
  have b1 : 0 ≤ S 1 4 ∧ S 1 4 ≤ 3 := hB 1 4
  have b2 : 0 ≤ S 1 3 ∧ S 1 3 ≤ 200 := hB 1 3
  have b3 : 0 ≤ S 1 2 ∧ S 1 2 ≤ 200 := hB 1 2
  have b4 : 0 ≤ S 2 (S 1 2 + 0) ∧ S 2 (S 1 2 + 0) ≤ 255 := hB 2 (S 1 2 + 0)
  have b5 : 0 ≤ S 2 (S 1 2 + 1) ∧ S 2 (S 1 2 + 1) ≤ 255 := hB 2 (S 1 2 + 1)
  have b6 : 0 ≤ S 2 (S 1 2 + 2) ∧ S 2 (S 1 2 + 2) ≤ 255 := hB 2 (S 1 2 + 2)
  have b7 : 0 ≤ S 2 (S 1 2 + 3) ∧ S 2 (S 1 2 + 3) ≤ 255 := hB 2 (S 1 2 + 3)
  have b8 : 0 ≤ S 2 (S 1 2 + 4) ∧ S 2 (S 1 2 + 4) ≤ 255 := hB 2 (S 1 2 + 4)
  by_cases h9 : S 1 4 = 1 ∧ S 1 3 - S 1 2 = 5 ∧ S 2 (S 1 2 + 0) = 116 ∧ S 2 (S 1 2 + 1) = 104 ∧ S 2 (S 1 2 + 2) = 111 ∧ S 2 (S 1 2 + 3) = 114 ∧ S 2 (S 1 2 + 4) = 110
  · skip
    refine q_callE (pc' := 9) (w := some (.inl 1)) (S2 := S) (st' := [.inl 1]) rfl rfl rfl (bi_pos h9 (c_X8_isWord_0  (S := S) hB )) (by decide) rfl rfl (Nat.le_of_ble_eq_true rfl) (fun _ _ => ⟨_, _, rfl, rfl⟩) rfl rfl ?_
    refine r_if_eq0 (pc' := 12) rfl rfl (by decide) (by decide) ?_
    refine r_const (pc' := 13) rfl rfl ?_
    refine q_iret rfl rfl rfl ?_
    exact ⟨by unfold v_X0_clauseSort; rw [if_pos h9], rfl⟩
  · skip
    refine q_callE (pc' := 9) (w := some (.inl 0)) (S2 := S) (st' := [.inl 0]) rfl rfl rfl (bi_neg h9 (c_X8_isWord_0  (S := S) hB )) (by decide) rfl rfl (Nat.le_of_ble_eq_true rfl) (fun _ _ => ⟨_, _, rfl, rfl⟩) rfl rfl ?_
    refine r_if_eq1 (pc' := 14) rfl rfl (by decide) (by decide) ?_
    refine r_aload (pc' := 15) rfl rfl rfl ?_
    refine r_getr (pc' := 18) (v := 1) rfl rfl rfl rfl rfl ?_
    refine r_ldc (pc' := 20) (v := -4) rfl rfl (by decide) ?_
    by_cases h10 : S 1 4 = 1 ∧ S 1 3 - S 1 2 = 5 ∧ S 2 (S 1 2 + 0) = 104 ∧ S 2 (S 1 2 + 1) = 111 ∧ S 2 (S 1 2 + 2) = 108 ∧ S 2 (S 1 2 + 3) = 108 ∧ S 2 (S 1 2 + 4) = 121
    · skip
      refine q_callE (pc' := 23) (w := some (.inl 1)) (S2 := S) (st' := [.inl 1]) rfl rfl rfl (bi_pos h10 (c_X8_isWord_1  (S := S) hB )) (by decide) rfl rfl (Nat.le_of_ble_eq_true rfl) (fun _ _ => ⟨_, _, rfl, rfl⟩) rfl rfl ?_
      refine r_if_eq0 (pc' := 26) rfl rfl (by decide) (by decide) ?_
      refine r_const (pc' := 27) rfl rfl ?_
      refine q_iret rfl rfl rfl ?_
      exact ⟨by unfold v_X0_clauseSort; rw [if_neg h9, if_pos h10], rfl⟩
    · skip
      refine q_callE (pc' := 23) (w := some (.inl 0)) (S2 := S) (st' := [.inl 0]) rfl rfl rfl (bi_neg h10 (c_X8_isWord_1  (S := S) hB )) (by decide) rfl rfl (Nat.le_of_ble_eq_true rfl) (fun _ _ => ⟨_, _, rfl, rfl⟩) rfl rfl ?_
      refine r_if_eq1 (pc' := 28) rfl rfl (by decide) (by decide) ?_
      refine r_aload (pc' := 29) rfl rfl rfl ?_
      refine r_getr (pc' := 32) (v := 1) rfl rfl rfl rfl rfl ?_
      refine r_ldc (pc' := 34) (v := -5) rfl rfl (by decide) ?_
      have b11 : 0 ≤ S 2 (S 1 2 + 5) ∧ S 2 (S 1 2 + 5) ≤ 255 := hB 2 (S 1 2 + 5)
      have b12 : 0 ≤ S 2 (S 1 2 + 6) ∧ S 2 (S 1 2 + 6) ≤ 255 := hB 2 (S 1 2 + 6)
      by_cases h13 : S 1 4 = 1 ∧ S 1 3 - S 1 2 = 7 ∧ S 2 (S 1 2 + 0) = 98 ∧ S 2 (S 1 2 + 1) = 114 ∧ S 2 (S 1 2 + 2) = 97 ∧ S 2 (S 1 2 + 3) = 109 ∧ S 2 (S 1 2 + 4) = 98 ∧ S 2 (S 1 2 + 5) = 108 ∧ S 2 (S 1 2 + 6) = 101
      · skip
        refine q_callE (pc' := 37) (w := some (.inl 1)) (S2 := S) (st' := [.inl 1]) rfl rfl rfl (bi_pos h13 (c_X8_isWord_2  (S := S) hB )) (by decide) rfl rfl (Nat.le_of_ble_eq_true rfl) (fun _ _ => ⟨_, _, rfl, rfl⟩) rfl rfl ?_
        refine r_if_eq0 (pc' := 40) rfl rfl (by decide) (by decide) ?_
        refine r_const (pc' := 41) rfl rfl ?_
        refine q_iret rfl rfl rfl ?_
        exact ⟨by unfold v_X0_clauseSort; rw [if_neg h9, if_neg h10, if_pos h13], rfl⟩
      · skip
        refine q_callE (pc' := 37) (w := some (.inl 0)) (S2 := S) (st' := [.inl 0]) rfl rfl rfl (bi_neg h13 (c_X8_isWord_2  (S := S) hB )) (by decide) rfl rfl (Nat.le_of_ble_eq_true rfl) (fun _ _ => ⟨_, _, rfl, rfl⟩) rfl rfl ?_
        refine r_if_eq1 (pc' := 42) rfl rfl (by decide) (by decide) ?_
        refine r_aload (pc' := 43) rfl rfl rfl ?_
        refine r_getr (pc' := 46) (v := 1) rfl rfl rfl rfl rfl ?_
        refine r_ldc (pc' := 48) (v := -6) rfl rfl (by decide) ?_
        by_cases h14 : S 1 4 = 1 ∧ S 1 3 - S 1 2 = 5 ∧ S 2 (S 1 2 + 0) = 104 ∧ S 2 (S 1 2 + 1) = 97 ∧ S 2 (S 1 2 + 2) = 122 ∧ S 2 (S 1 2 + 3) = 101 ∧ S 2 (S 1 2 + 4) = 108
        · skip
          refine q_callE (pc' := 51) (w := some (.inl 1)) (S2 := S) (st' := [.inl 1]) rfl rfl rfl (bi_pos h14 (c_X8_isWord_3  (S := S) hB )) (by decide) rfl rfl (Nat.le_of_ble_eq_true rfl) (fun _ _ => ⟨_, _, rfl, rfl⟩) rfl rfl ?_
          refine r_if_eq0 (pc' := 54) rfl rfl (by decide) (by decide) ?_
          refine r_const (pc' := 55) rfl rfl ?_
          refine q_iret rfl rfl rfl ?_
          exact ⟨by unfold v_X0_clauseSort; rw [if_neg h9, if_neg h10, if_neg h13, if_pos h14], rfl⟩
        · skip
          refine q_callE (pc' := 51) (w := some (.inl 0)) (S2 := S) (st' := [.inl 0]) rfl rfl rfl (bi_neg h14 (c_X8_isWord_3  (S := S) hB )) (by decide) rfl rfl (Nat.le_of_ble_eq_true rfl) (fun _ _ => ⟨_, _, rfl, rfl⟩) rfl rfl ?_
          refine r_if_eq1 (pc' := 56) rfl rfl (by decide) (by decide) ?_
          refine r_aload (pc' := 57) rfl rfl rfl ?_
          refine r_getr (pc' := 60) (v := 1) rfl rfl rfl rfl rfl ?_
          refine r_ldc (pc' := 62) (v := -7) rfl rfl (by decide) ?_
          by_cases h15 : S 1 4 = 1 ∧ S 1 3 - S 1 2 = 6 ∧ S 2 (S 1 2 + 0) = 112 ∧ S 2 (S 1 2 + 1) = 97 ∧ S 2 (S 1 2 + 2) = 114 ∧ S 2 (S 1 2 + 3) = 105 ∧ S 2 (S 1 2 + 4) = 115 ∧ S 2 (S 1 2 + 5) = 104
          · skip
            refine q_callE (pc' := 65) (w := some (.inl 1)) (S2 := S) (st' := [.inl 1]) rfl rfl rfl (bi_pos h15 (c_X8_isWord_4  (S := S) hB )) (by decide) rfl rfl (Nat.le_of_ble_eq_true rfl) (fun _ _ => ⟨_, _, rfl, rfl⟩) rfl rfl ?_
            refine r_if_eq0 (pc' := 68) rfl rfl (by decide) (by decide) ?_
            refine r_const (pc' := 69) rfl rfl ?_
            refine q_iret rfl rfl rfl ?_
            exact ⟨by unfold v_X0_clauseSort; rw [if_neg h9, if_neg h10, if_neg h13, if_neg h14, if_pos h15], rfl⟩
          · skip
            refine q_callE (pc' := 65) (w := some (.inl 0)) (S2 := S) (st' := [.inl 0]) rfl rfl rfl (bi_neg h15 (c_X8_isWord_4  (S := S) hB )) (by decide) rfl rfl (Nat.le_of_ble_eq_true rfl) (fun _ _ => ⟨_, _, rfl, rfl⟩) rfl rfl ?_
            refine r_if_eq1 (pc' := 70) rfl rfl (by decide) (by decide) ?_
            refine r_aload (pc' := 71) rfl rfl rfl ?_
            refine r_getr (pc' := 74) (v := 1) rfl rfl rfl rfl rfl ?_
            refine r_ldc (pc' := 76) (v := -8) rfl rfl (by decide) ?_
            by_cases h16 : S 1 4 = 1 ∧ S 1 3 - S 1 2 = 4 ∧ S 2 (S 1 2 + 0) = 103 ∧ S 2 (S 1 2 + 1) = 97 ∧ S 2 (S 1 2 + 2) = 116 ∧ S 2 (S 1 2 + 3) = 101
            · skip
              refine q_callE (pc' := 79) (w := some (.inl 1)) (S2 := S) (st' := [.inl 1]) rfl rfl rfl (bi_pos h16 (c_X8_isWord_5  (S := S) hB )) (by decide) rfl rfl (Nat.le_of_ble_eq_true rfl) (fun _ _ => ⟨_, _, rfl, rfl⟩) rfl rfl ?_
              refine r_if_eq0 (pc' := 82) rfl rfl (by decide) (by decide) ?_
              refine r_const (pc' := 83) rfl rfl ?_
              refine q_iret rfl rfl rfl ?_
              exact ⟨by unfold v_X0_clauseSort; rw [if_neg h9, if_neg h10, if_neg h13, if_neg h14, if_neg h15, if_pos h16], rfl⟩
            · skip
              refine q_callE (pc' := 79) (w := some (.inl 0)) (S2 := S) (st' := [.inl 0]) rfl rfl rfl (bi_neg h16 (c_X8_isWord_5  (S := S) hB )) (by decide) rfl rfl (Nat.le_of_ble_eq_true rfl) (fun _ _ => ⟨_, _, rfl, rfl⟩) rfl rfl ?_
              refine r_if_eq1 (pc' := 84) rfl rfl (by decide) (by decide) ?_
              refine r_aload (pc' := 85) rfl rfl rfl ?_
              refine r_getr (pc' := 88) (v := 1) rfl rfl rfl rfl rfl ?_
              refine r_ldc (pc' := 90) (v := -9) rfl rfl (by decide) ?_
              by_cases h17 : S 1 4 = 1 ∧ S 1 3 - S 1 2 = 4 ∧ S 2 (S 1 2 + 0) = 119 ∧ S 2 (S 1 2 + 1) = 111 ∧ S 2 (S 1 2 + 2) = 114 ∧ S 2 (S 1 2 + 3) = 100
              · skip
                refine q_callE (pc' := 93) (w := some (.inl 1)) (S2 := S) (st' := [.inl 1]) rfl rfl rfl (bi_pos h17 (c_X8_isWord_6  (S := S) hB )) (by decide) rfl rfl (Nat.le_of_ble_eq_true rfl) (fun _ _ => ⟨_, _, rfl, rfl⟩) rfl rfl ?_
                refine r_if_eq0 (pc' := 96) rfl rfl (by decide) (by decide) ?_
                refine r_const (pc' := 98) rfl rfl ?_
                refine q_iret rfl rfl rfl ?_
                exact ⟨by unfold v_X0_clauseSort; rw [if_neg h9, if_neg h10, if_neg h13, if_neg h14, if_neg h15, if_neg h16, if_pos h17], rfl⟩
              · skip
                refine q_callE (pc' := 93) (w := some (.inl 0)) (S2 := S) (st' := [.inl 0]) rfl rfl rfl (bi_neg h17 (c_X8_isWord_6  (S := S) hB )) (by decide) rfl rfl (Nat.le_of_ble_eq_true rfl) (fun _ _ => ⟨_, _, rfl, rfl⟩) rfl rfl ?_
                refine r_if_eq1 (pc' := 99) rfl rfl (by decide) (by decide) ?_
                refine r_aload (pc' := 100) rfl rfl rfl ?_
                refine r_getr (pc' := 103) (v := 1) rfl rfl rfl rfl rfl ?_
                refine r_ldc (pc' := 105) (v := -10) rfl rfl (by decide) ?_
                by_cases h18 : S 1 4 = 1 ∧ S 1 3 - S 1 2 = 4 ∧ S 2 (S 1 2 + 0) = 100 ∧ S 2 (S 1 2 + 1) = 97 ∧ S 2 (S 1 2 + 2) = 114 ∧ S 2 (S 1 2 + 3) = 107
                · skip
                  refine q_callE (pc' := 108) (w := some (.inl 1)) (S2 := S) (st' := [.inl 1]) rfl rfl rfl (bi_pos h18 (c_X8_isWord_7  (S := S) hB )) (by decide) rfl rfl (Nat.le_of_ble_eq_true rfl) (fun _ _ => ⟨_, _, rfl, rfl⟩) rfl rfl ?_
                  refine r_if_eq0 (pc' := 111) rfl rfl (by decide) (by decide) ?_
                  refine r_const (pc' := 113) rfl rfl ?_
                  refine r_goto (pc' := 117) rfl rfl ?_
                  refine q_iret rfl rfl rfl ?_
                  exact ⟨by unfold v_X0_clauseSort; rw [if_neg h9, if_neg h10, if_neg h13, if_neg h14, if_neg h15, if_neg h16, if_neg h17, if_pos h18], rfl⟩
                · skip
                  refine q_callE (pc' := 108) (w := some (.inl 0)) (S2 := S) (st' := [.inl 0]) rfl rfl rfl (bi_neg h18 (c_X8_isWord_7  (S := S) hB )) (by decide) rfl rfl (Nat.le_of_ble_eq_true rfl) (fun _ _ => ⟨_, _, rfl, rfl⟩) rfl rfl ?_
                  refine r_if_eq1 (pc' := 116) rfl rfl (by decide) (by decide) ?_
                  refine r_const (pc' := 117) rfl rfl ?_
                  refine q_iret rfl rfl rfl ?_
                  exact ⟨by unfold v_X0_clauseSort; rw [if_neg h9, if_neg h10, if_neg h13, if_neg h14, if_neg h15, if_neg h16, if_neg h17, if_neg h18], rfl⟩
theorem cso_r {S : rS} : -1 ≤ v_X0_clauseSort S ∧ v_X0_clauseSort S ≤ 7 := by
  unfold v_X0_clauseSort
  repeat (first | omega | split)
noncomputable def v_X0_hasRoomFor (S : rS) (k : Int) : Int := if k = 4 then 1 else if k = 5 then if (S 3 4) < 9 then 1 else 0 else if k = 6 then if (S 3 5) < 8 then 1 else 0 else if k = 7 then 1 else if (S 3 3) < 7 then 1 else 0
theorem c_X0_hasRoomFor {k : Int} {S : rS} (hB : Bd S) (h_k : -1 ≤ k ∧ k ≤ 7) : CS 1 4 [.inr (.inr 3), .inl k] S (fun r' S' => r' = some (.inl (v_X0_hasRoomFor S k)) ∧ S' = S) := by
  refine RS.beg (ls := [some (.inr (.inr 3)), some (.inl k)]) rfl rfl rfl rfl rfl ?_
  refine r_iload (pc' := 1) rfl rfl rfl ?_
  by_cases h1 : k = 4
  · refine r_tsw (pc' := 32) 0 rfl rfl rfl (by omega) (by omega) ?_
    refine r_const (pc' := 33) rfl rfl ?_
    refine q_zret rfl rfl rfl (by omega) ?_
    exact ⟨by unfold v_X0_hasRoomFor; rw [if_pos h1], rfl⟩
  by_cases h2 : k = 5
  · refine r_tsw (pc' := 36) 1 rfl rfl rfl (by omega) (by omega) ?_
    refine r_aload (pc' := 37) rfl rfl rfl ?_
    refine r_getv (pc' := 40) (v := (S 3 4)) rfl rfl (Or.inl rfl) rfl rfl ?_
    have b3 : 0 ≤ S 3 4 ∧ S 3 4 ≤ 9 := hB 3 4
    refine r_const (pc' := 42) rfl rfl ?_
    by_cases h4 : (S 3 4) < 9
    · refine r_icmp_ge0 (pc' := 45) rfl rfl (by omega) (by omega) ?_
      refine r_const (pc' := 46) rfl rfl ?_
      refine r_goto (pc' := 50) rfl rfl ?_
      refine q_zret rfl rfl rfl (by omega) ?_
      exact ⟨by unfold v_X0_hasRoomFor; rw [if_neg h1, if_pos h2, if_pos h4], rfl⟩
    · refine r_icmp_ge1 (pc' := 49) rfl rfl (by omega) (by omega) ?_
      refine r_const (pc' := 50) rfl rfl ?_
      refine q_zret rfl rfl rfl (by omega) ?_
      exact ⟨by unfold v_X0_hasRoomFor; rw [if_neg h1, if_pos h2, if_neg h4], rfl⟩
  by_cases h5 : k = 6
  · refine r_tsw (pc' := 51) 2 rfl rfl rfl (by omega) (by omega) ?_
    refine r_aload (pc' := 52) rfl rfl rfl ?_
    refine r_getv (pc' := 55) (v := (S 3 5)) rfl rfl (Or.inl rfl) rfl rfl ?_
    have b6 : 0 ≤ S 3 5 ∧ S 3 5 ≤ 8 := hB 3 5
    refine r_const (pc' := 57) rfl rfl ?_
    by_cases h7 : (S 3 5) < 8
    · refine r_icmp_ge0 (pc' := 60) rfl rfl (by omega) (by omega) ?_
      refine r_const (pc' := 61) rfl rfl ?_
      refine r_goto (pc' := 65) rfl rfl ?_
      refine q_zret rfl rfl rfl (by omega) ?_
      exact ⟨by unfold v_X0_hasRoomFor; rw [if_neg h1, if_neg h2, if_pos h5, if_pos h7], rfl⟩
    · refine r_icmp_ge1 (pc' := 64) rfl rfl (by omega) (by omega) ?_
      refine r_const (pc' := 65) rfl rfl ?_
      refine q_zret rfl rfl rfl (by omega) ?_
      exact ⟨by unfold v_X0_hasRoomFor; rw [if_neg h1, if_neg h2, if_pos h5, if_neg h7], rfl⟩
  by_cases h8 : k = 7
  · refine r_tsw (pc' := 34) 3 rfl rfl rfl (by omega) (by omega) ?_
    refine r_const (pc' := 35) rfl rfl ?_
    refine q_zret rfl rfl rfl (by omega) ?_
    exact ⟨by unfold v_X0_hasRoomFor; rw [if_neg h1, if_neg h2, if_neg h5, if_pos h8], rfl⟩
  refine r_tswd (pc' := 66) rfl rfl (by omega) (by omega) ?_
  refine r_aload (pc' := 67) rfl rfl rfl ?_
  refine r_getv (pc' := 70) (v := (S 3 3)) rfl rfl (Or.inl rfl) rfl rfl ?_
  have b9 : 0 ≤ S 3 3 ∧ S 3 3 ≤ 7 := hB 3 3
  refine r_const (pc' := 72) rfl rfl ?_
  by_cases h10 : (S 3 3) < 7
  · refine r_icmp_ge0 (pc' := 75) rfl rfl (by omega) (by omega) ?_
    refine r_const (pc' := 76) rfl rfl ?_
    refine r_goto (pc' := 80) rfl rfl ?_
    refine q_zret rfl rfl rfl (by omega) ?_
    exact ⟨by unfold v_X0_hasRoomFor; rw [if_neg h1, if_neg h2, if_neg h5, if_neg h8, if_pos h10], rfl⟩
  · refine r_icmp_ge1 (pc' := 79) rfl rfl (by omega) (by omega) ?_
    refine r_const (pc' := 80) rfl rfl ?_
    refine q_zret rfl rfl rfl (by omega) ?_
    exact ⟨by unfold v_X0_hasRoomFor; rw [if_neg h1, if_neg h2, if_neg h5, if_neg h8, if_neg h10], rfl⟩
theorem hrf_r {S : rS} {k : Int} : 0 ≤ v_X0_hasRoomFor S k ∧ v_X0_hasRoomFor S k ≤ 1 := by
  unfold v_X0_hasRoomFor
  repeat (first | omega | split)
theorem hrf_t {S : rS} {k : Int} (h : ¬ v_X0_hasRoomFor S k = 0) : (k = 5 → S 3 4 < 9) ∧ (k = 6 → S 3 5 < 8) ∧ (k ≠ 4 → k ≠ 5 → k ≠ 6 → k ≠ 7 → S 3 3 < 7) := by
  unfold v_X0_hasRoomFor at h
  refine ⟨fun e => ?_, fun e => ?_, fun e1 e2 e3 e4 => ?_⟩
  · subst e
    by_cases q : S 3 4 < 9
    · exact q
    · exact absurd (by simp [q]) h
  · subst e
    by_cases q : S 3 5 < 8
    · exact q
    · exact absurd (by simp [q]) h
  · by_cases q : S 3 3 < 7
    · exact q
    · exact absurd (by simp [q, e1, e2, e3, e4]) h
abbrev tord (S : rS) : Prop := (0 ≤ S 1 2 ∧ S 1 2 ≤ S 1 3) ∧ S 1 3 ≤ 200
theorem tord_stp {S : rS} (hB : Bd S) : tord (stp S) := by
  have b1 : 0 ≤ S 1 1 ∧ S 1 1 ≤ 200 := hB 1 1
  have b3 : 0 ≤ S 1 3 ∧ S 1 3 ≤ 200 := hB 1 3
  have q1 := tkB_b (S 2) (S 1 1) (S 1 3)
  have q3 := tkQ_b (S 2) (S 1 1) (S 1 3)
  have e2 : stp S 1 2 = tkB (S 2) (S 1 1) (S 1 3) := rfl
  have e3 : stp S 1 3 = tkQ (S 2) (S 1 1) (S 1 3) := rfl
  unfold tord
  rw [e2, e3]
  omega
noncomputable def w_X0_readNumber_1 (S : rS) (c : Int) (lo : Int) (hi : Int) : Int × rS := if (valc S) = (-1) then (0, S) else if (valc S) < lo then (0, S) else if hi < (valc S) then (0, S) else (1, (stp (mx_up S (5 + c) 1 (valc S))))
theorem c_X0_readNumber_1 {c : Int} {lo : Int} {hi : Int} {S : rS} (hB : Bd S) (h_t : tord S) (h_c : 0 ≤ c ∧ c < 20) (h_l : 0 ≤ lo ∧ lo ≤ 100) (h_h : -1 ≤ hi ∧ hi ≤ 99) : CS 3 9 [.inr (.inr 3), .inr (.inr (5 + c)), .inl 1, .inl lo, .inl hi] S (fun r' S' => r' = some (.inl ((w_X0_readNumber_1 S c lo hi).1)) ∧ S' = (w_X0_readNumber_1 S c lo hi).2 ∧ Bd S' ∧ ((w_X0_readNumber_1 S c lo hi).1 = 0 ∨ (w_X0_readNumber_1 S c lo hi).1 = 1) ∧ tord S') := by
  refine RS.beg (ls := [some (.inr (.inr 3)), some (.inr (.inr (5 + c))), some (.inl 1), some (.inl lo), some (.inl hi), none]) rfl rfl rfl rfl rfl ?_
  refine r_aload (pc' := 1) rfl rfl rfl ?_
  refine r_getr (pc' := 4) (v := 1) rfl rfl rfl rfl rfl ?_
  refine q_callE (pc' := 7) (w := some (.inl (valc S))) (S2 := S) (st' := [.inl (valc S)]) rfl rfl rfl (c_X8_value  (S := S) hB (show (0 ≤ S 1 2 ∧ S 1 2 ≤ S 1 3) ∧ S 1 3 ≤ 200 from by first | assumption | omega)) (by decide) rfl rfl (Nat.le_of_ble_eq_true rfl) (fun _ _ => ⟨_, _, rfl, rfl⟩) rfl rfl ?_
  have b1 : -600 ≤ (valc S) ∧ (valc S) ≤ 3000 := valc_b hB
  refine r_istore (pc' := 9) (ls' := [some (.inr (.inr 3)), some (.inr (.inr (5 + c))), some (.inl 1), some (.inl lo), some (.inl hi), some (.inl (valc S))]) rfl rfl rfl rfl ?_
  refine r_iload (pc' := 11) rfl rfl rfl ?_
  refine r_const (pc' := 12) rfl rfl ?_
  by_cases h2 : (valc S) = (-1)
  · refine r_icmp_eq1 (pc' := 28) rfl rfl (by omega) (by omega) ?_
    refine r_const (pc' := 29) rfl rfl ?_
    refine q_zret rfl rfl rfl (by omega) ?_
    have ew : w_X0_readNumber_1 S c lo hi = (0, S) := by unfold w_X0_readNumber_1; rw [if_pos h2]
    exact ⟨by rw [ew], by rw [ew], hB, by rw [ew]; omega, h_t⟩
  · refine r_icmp_eq0 (pc' := 15) rfl rfl (by omega) (by omega) ?_
    refine r_iload (pc' := 17) rfl rfl rfl ?_
    refine r_iload (pc' := 18) rfl rfl rfl ?_
    by_cases h3 : (valc S) < lo
    · refine r_icmp_lt1 (pc' := 28) rfl rfl (by omega) (by omega) ?_
      refine r_const (pc' := 29) rfl rfl ?_
      refine q_zret rfl rfl rfl (by omega) ?_
      have ew : w_X0_readNumber_1 S c lo hi = (0, S) := by unfold w_X0_readNumber_1; rw [if_neg h2, if_pos h3]
      exact ⟨by rw [ew], by rw [ew], hB, by rw [ew]; omega, h_t⟩
    · refine r_icmp_lt0 (pc' := 21) rfl rfl (by omega) (by omega) ?_
      refine r_iload (pc' := 23) rfl rfl rfl ?_
      refine r_iload (pc' := 25) rfl rfl rfl ?_
      by_cases h4 : hi < (valc S)
      · refine r_icmp_le0 (pc' := 28) rfl rfl (by omega) (by omega) ?_
        refine r_const (pc' := 29) rfl rfl ?_
        refine q_zret rfl rfl rfl (by omega) ?_
        have ew : w_X0_readNumber_1 S c lo hi = (0, S) := by unfold w_X0_readNumber_1; rw [if_neg h2, if_neg h3, if_pos h4]
        exact ⟨by rw [ew], by rw [ew], hB, by rw [ew]; omega, h_t⟩
      · refine r_icmp_le1 (pc' := 30) rfl rfl (by omega) (by omega) ?_
        refine r_aload (pc' := 31) rfl rfl rfl ?_
        refine r_iload (pc' := 32) rfl rfl rfl ?_
        refine r_iload (pc' := 34) rfl rfl rfl ?_
        refine r_ast (pc' := 35) 6 rfl rfl (shr_5 (by omega)) (by omega) ?_
        refine r_aload (pc' := 36) rfl rfl rfl ?_
        refine r_getr (pc' := 39) (v := 1) rfl rfl rfl rfl rfl ?_
        have hC5 : Bd (mx_up S (5 + c) 1 (valc S)) := (Bd_up hB (show _ ≤ (valc S) from by rw [(bdp_5_1 (show 0 ≤ c ∧ c < 20 from by omega)).1]; omega) (show (valc S) ≤ _ from by rw [(bdp_5_1 (show 0 ≤ c ∧ c < 20 from by omega)).2]; omega))
        refine q_callE (pc' := 42) (w := none) (S2 := stp (mx_up S (5 + c) 1 (valc S))) (st' := []) rfl rfl rfl (c_X8_step  (S := mx_up S (5 + c) 1 (valc S)) (Bd_up hB (show _ ≤ (valc S) from by rw [(bdp_5_1 (show 0 ≤ c ∧ c < 20 from by omega)).1]; omega) (show (valc S) ≤ _ from by rw [(bdp_5_1 (show 0 ≤ c ∧ c < 20 from by omega)).2]; omega)) ) (by decide) rfl rfl (Nat.le_of_ble_eq_true rfl) (fun _ _ => ⟨_, _, rfl, rfl⟩) rfl rfl ?_
        have hB6 : Bd (stp (mx_up S (5 + c) 1 (valc S))) := Bd_stp (Bd_up hB (show _ ≤ (valc S) from by rw [(bdp_5_1 (show 0 ≤ c ∧ c < 20 from by omega)).1]; omega) (show (valc S) ≤ _ from by rw [(bdp_5_1 (show 0 ≤ c ∧ c < 20 from by omega)).2]; omega))
        refine r_const (pc' := 43) rfl rfl ?_
        refine q_zret rfl rfl rfl (by omega) ?_
        have ew : w_X0_readNumber_1 S c lo hi = (1, (stp (mx_up S (5 + c) 1 (valc S)))) := by unfold w_X0_readNumber_1; rw [if_neg h2, if_neg h3, if_neg h4]
        exact ⟨by rw [ew], by rw [ew], hB6, by rw [ew]; omega, (tord_stp (by first | assumption | exact hC5))⟩
noncomputable def w_X0_readNumber_2 (S : rS) (c : Int) (lo : Int) (hi : Int) : Int × rS := if (valc S) = (-1) then (0, S) else if (valc S) < lo then (0, S) else if hi < (valc S) then (0, S) else (1, (stp (mx_up S (5 + c) 2 (valc S))))
theorem c_X0_readNumber_2 {c : Int} {lo : Int} {hi : Int} {S : rS} (hB : Bd S) (h_t : tord S) (h_c : 0 ≤ c ∧ c < 20) (h_l : 0 ≤ lo ∧ lo ≤ 100) (h_h : -1 ≤ hi ∧ hi ≤ 9) : CS 3 9 [.inr (.inr 3), .inr (.inr (5 + c)), .inl 2, .inl lo, .inl hi] S (fun r' S' => r' = some (.inl ((w_X0_readNumber_2 S c lo hi).1)) ∧ S' = (w_X0_readNumber_2 S c lo hi).2 ∧ Bd S' ∧ ((w_X0_readNumber_2 S c lo hi).1 = 0 ∨ (w_X0_readNumber_2 S c lo hi).1 = 1) ∧ tord S') := by
  refine RS.beg (ls := [some (.inr (.inr 3)), some (.inr (.inr (5 + c))), some (.inl 2), some (.inl lo), some (.inl hi), none]) rfl rfl rfl rfl rfl ?_
  refine r_aload (pc' := 1) rfl rfl rfl ?_
  refine r_getr (pc' := 4) (v := 1) rfl rfl rfl rfl rfl ?_
  refine q_callE (pc' := 7) (w := some (.inl (valc S))) (S2 := S) (st' := [.inl (valc S)]) rfl rfl rfl (c_X8_value  (S := S) hB (show (0 ≤ S 1 2 ∧ S 1 2 ≤ S 1 3) ∧ S 1 3 ≤ 200 from by first | assumption | omega)) (by decide) rfl rfl (Nat.le_of_ble_eq_true rfl) (fun _ _ => ⟨_, _, rfl, rfl⟩) rfl rfl ?_
  have b1 : -600 ≤ (valc S) ∧ (valc S) ≤ 3000 := valc_b hB
  refine r_istore (pc' := 9) (ls' := [some (.inr (.inr 3)), some (.inr (.inr (5 + c))), some (.inl 2), some (.inl lo), some (.inl hi), some (.inl (valc S))]) rfl rfl rfl rfl ?_
  refine r_iload (pc' := 11) rfl rfl rfl ?_
  refine r_const (pc' := 12) rfl rfl ?_
  by_cases h2 : (valc S) = (-1)
  · refine r_icmp_eq1 (pc' := 28) rfl rfl (by omega) (by omega) ?_
    refine r_const (pc' := 29) rfl rfl ?_
    refine q_zret rfl rfl rfl (by omega) ?_
    have ew : w_X0_readNumber_2 S c lo hi = (0, S) := by unfold w_X0_readNumber_2; rw [if_pos h2]
    exact ⟨by rw [ew], by rw [ew], hB, by rw [ew]; omega, h_t⟩
  · refine r_icmp_eq0 (pc' := 15) rfl rfl (by omega) (by omega) ?_
    refine r_iload (pc' := 17) rfl rfl rfl ?_
    refine r_iload (pc' := 18) rfl rfl rfl ?_
    by_cases h3 : (valc S) < lo
    · refine r_icmp_lt1 (pc' := 28) rfl rfl (by omega) (by omega) ?_
      refine r_const (pc' := 29) rfl rfl ?_
      refine q_zret rfl rfl rfl (by omega) ?_
      have ew : w_X0_readNumber_2 S c lo hi = (0, S) := by unfold w_X0_readNumber_2; rw [if_neg h2, if_pos h3]
      exact ⟨by rw [ew], by rw [ew], hB, by rw [ew]; omega, h_t⟩
    · refine r_icmp_lt0 (pc' := 21) rfl rfl (by omega) (by omega) ?_
      refine r_iload (pc' := 23) rfl rfl rfl ?_
      refine r_iload (pc' := 25) rfl rfl rfl ?_
      by_cases h4 : hi < (valc S)
      · refine r_icmp_le0 (pc' := 28) rfl rfl (by omega) (by omega) ?_
        refine r_const (pc' := 29) rfl rfl ?_
        refine q_zret rfl rfl rfl (by omega) ?_
        have ew : w_X0_readNumber_2 S c lo hi = (0, S) := by unfold w_X0_readNumber_2; rw [if_neg h2, if_neg h3, if_pos h4]
        exact ⟨by rw [ew], by rw [ew], hB, by rw [ew]; omega, h_t⟩
      · refine r_icmp_le1 (pc' := 30) rfl rfl (by omega) (by omega) ?_
        refine r_aload (pc' := 31) rfl rfl rfl ?_
        refine r_iload (pc' := 32) rfl rfl rfl ?_
        refine r_iload (pc' := 34) rfl rfl rfl ?_
        refine r_ast (pc' := 35) 6 rfl rfl (shr_5 (by omega)) (by omega) ?_
        refine r_aload (pc' := 36) rfl rfl rfl ?_
        refine r_getr (pc' := 39) (v := 1) rfl rfl rfl rfl rfl ?_
        have hC5 : Bd (mx_up S (5 + c) 2 (valc S)) := (Bd_up hB (show _ ≤ (valc S) from by rw [(bdp_5_2 (show 0 ≤ c ∧ c < 20 from by omega)).1]; omega) (show (valc S) ≤ _ from by rw [(bdp_5_2 (show 0 ≤ c ∧ c < 20 from by omega)).2]; omega))
        refine q_callE (pc' := 42) (w := none) (S2 := stp (mx_up S (5 + c) 2 (valc S))) (st' := []) rfl rfl rfl (c_X8_step  (S := mx_up S (5 + c) 2 (valc S)) (Bd_up hB (show _ ≤ (valc S) from by rw [(bdp_5_2 (show 0 ≤ c ∧ c < 20 from by omega)).1]; omega) (show (valc S) ≤ _ from by rw [(bdp_5_2 (show 0 ≤ c ∧ c < 20 from by omega)).2]; omega)) ) (by decide) rfl rfl (Nat.le_of_ble_eq_true rfl) (fun _ _ => ⟨_, _, rfl, rfl⟩) rfl rfl ?_
        have hB6 : Bd (stp (mx_up S (5 + c) 2 (valc S))) := Bd_stp (Bd_up hB (show _ ≤ (valc S) from by rw [(bdp_5_2 (show 0 ≤ c ∧ c < 20 from by omega)).1]; omega) (show (valc S) ≤ _ from by rw [(bdp_5_2 (show 0 ≤ c ∧ c < 20 from by omega)).2]; omega))
        refine r_const (pc' := 43) rfl rfl ?_
        refine q_zret rfl rfl rfl (by omega) ?_
        have ew : w_X0_readNumber_2 S c lo hi = (1, (stp (mx_up S (5 + c) 2 (valc S)))) := by unfold w_X0_readNumber_2; rw [if_neg h2, if_neg h3, if_neg h4]
        exact ⟨by rw [ew], by rw [ew], hB6, by rw [ew]; omega, (tord_stp (by first | assumption | exact hC5))⟩
noncomputable def w_X0_readNumber_3 (S : rS) (c : Int) (lo : Int) (hi : Int) : Int × rS := if (valc S) = (-1) then (0, S) else if (valc S) < lo then (0, S) else if hi < (valc S) then (0, S) else (1, (stp (mx_up S (5 + c) 3 (valc S))))
theorem c_X0_readNumber_3 {c : Int} {lo : Int} {hi : Int} {S : rS} (hB : Bd S) (h_t : tord S) (h_c : 0 ≤ c ∧ c < 20) (h_l : 0 ≤ lo ∧ lo ≤ 100) (h_h : -1 ≤ hi ∧ hi ≤ 30) : CS 3 9 [.inr (.inr 3), .inr (.inr (5 + c)), .inl 3, .inl lo, .inl hi] S (fun r' S' => r' = some (.inl ((w_X0_readNumber_3 S c lo hi).1)) ∧ S' = (w_X0_readNumber_3 S c lo hi).2 ∧ Bd S' ∧ ((w_X0_readNumber_3 S c lo hi).1 = 0 ∨ (w_X0_readNumber_3 S c lo hi).1 = 1) ∧ tord S') := by
  refine RS.beg (ls := [some (.inr (.inr 3)), some (.inr (.inr (5 + c))), some (.inl 3), some (.inl lo), some (.inl hi), none]) rfl rfl rfl rfl rfl ?_
  refine r_aload (pc' := 1) rfl rfl rfl ?_
  refine r_getr (pc' := 4) (v := 1) rfl rfl rfl rfl rfl ?_
  refine q_callE (pc' := 7) (w := some (.inl (valc S))) (S2 := S) (st' := [.inl (valc S)]) rfl rfl rfl (c_X8_value  (S := S) hB (show (0 ≤ S 1 2 ∧ S 1 2 ≤ S 1 3) ∧ S 1 3 ≤ 200 from by first | assumption | omega)) (by decide) rfl rfl (Nat.le_of_ble_eq_true rfl) (fun _ _ => ⟨_, _, rfl, rfl⟩) rfl rfl ?_
  have b1 : -600 ≤ (valc S) ∧ (valc S) ≤ 3000 := valc_b hB
  refine r_istore (pc' := 9) (ls' := [some (.inr (.inr 3)), some (.inr (.inr (5 + c))), some (.inl 3), some (.inl lo), some (.inl hi), some (.inl (valc S))]) rfl rfl rfl rfl ?_
  refine r_iload (pc' := 11) rfl rfl rfl ?_
  refine r_const (pc' := 12) rfl rfl ?_
  by_cases h2 : (valc S) = (-1)
  · refine r_icmp_eq1 (pc' := 28) rfl rfl (by omega) (by omega) ?_
    refine r_const (pc' := 29) rfl rfl ?_
    refine q_zret rfl rfl rfl (by omega) ?_
    have ew : w_X0_readNumber_3 S c lo hi = (0, S) := by unfold w_X0_readNumber_3; rw [if_pos h2]
    exact ⟨by rw [ew], by rw [ew], hB, by rw [ew]; omega, h_t⟩
  · refine r_icmp_eq0 (pc' := 15) rfl rfl (by omega) (by omega) ?_
    refine r_iload (pc' := 17) rfl rfl rfl ?_
    refine r_iload (pc' := 18) rfl rfl rfl ?_
    by_cases h3 : (valc S) < lo
    · refine r_icmp_lt1 (pc' := 28) rfl rfl (by omega) (by omega) ?_
      refine r_const (pc' := 29) rfl rfl ?_
      refine q_zret rfl rfl rfl (by omega) ?_
      have ew : w_X0_readNumber_3 S c lo hi = (0, S) := by unfold w_X0_readNumber_3; rw [if_neg h2, if_pos h3]
      exact ⟨by rw [ew], by rw [ew], hB, by rw [ew]; omega, h_t⟩
    · refine r_icmp_lt0 (pc' := 21) rfl rfl (by omega) (by omega) ?_
      refine r_iload (pc' := 23) rfl rfl rfl ?_
      refine r_iload (pc' := 25) rfl rfl rfl ?_
      by_cases h4 : hi < (valc S)
      · refine r_icmp_le0 (pc' := 28) rfl rfl (by omega) (by omega) ?_
        refine r_const (pc' := 29) rfl rfl ?_
        refine q_zret rfl rfl rfl (by omega) ?_
        have ew : w_X0_readNumber_3 S c lo hi = (0, S) := by unfold w_X0_readNumber_3; rw [if_neg h2, if_neg h3, if_pos h4]
        exact ⟨by rw [ew], by rw [ew], hB, by rw [ew]; omega, h_t⟩
      · refine r_icmp_le1 (pc' := 30) rfl rfl (by omega) (by omega) ?_
        refine r_aload (pc' := 31) rfl rfl rfl ?_
        refine r_iload (pc' := 32) rfl rfl rfl ?_
        refine r_iload (pc' := 34) rfl rfl rfl ?_
        refine r_ast (pc' := 35) 6 rfl rfl (shr_5 (by omega)) (by omega) ?_
        refine r_aload (pc' := 36) rfl rfl rfl ?_
        refine r_getr (pc' := 39) (v := 1) rfl rfl rfl rfl rfl ?_
        have hC5 : Bd (mx_up S (5 + c) 3 (valc S)) := (Bd_up hB (show _ ≤ (valc S) from by rw [(bdp_5_3 (show 0 ≤ c ∧ c < 20 from by omega)).1]; omega) (show (valc S) ≤ _ from by rw [(bdp_5_3 (show 0 ≤ c ∧ c < 20 from by omega)).2]; omega))
        refine q_callE (pc' := 42) (w := none) (S2 := stp (mx_up S (5 + c) 3 (valc S))) (st' := []) rfl rfl rfl (c_X8_step  (S := mx_up S (5 + c) 3 (valc S)) (Bd_up hB (show _ ≤ (valc S) from by rw [(bdp_5_3 (show 0 ≤ c ∧ c < 20 from by omega)).1]; omega) (show (valc S) ≤ _ from by rw [(bdp_5_3 (show 0 ≤ c ∧ c < 20 from by omega)).2]; omega)) ) (by decide) rfl rfl (Nat.le_of_ble_eq_true rfl) (fun _ _ => ⟨_, _, rfl, rfl⟩) rfl rfl ?_
        have hB6 : Bd (stp (mx_up S (5 + c) 3 (valc S))) := Bd_stp (Bd_up hB (show _ ≤ (valc S) from by rw [(bdp_5_3 (show 0 ≤ c ∧ c < 20 from by omega)).1]; omega) (show (valc S) ≤ _ from by rw [(bdp_5_3 (show 0 ≤ c ∧ c < 20 from by omega)).2]; omega))
        refine r_const (pc' := 43) rfl rfl ?_
        refine q_zret rfl rfl rfl (by omega) ?_
        have ew : w_X0_readNumber_3 S c lo hi = (1, (stp (mx_up S (5 + c) 3 (valc S)))) := by unfold w_X0_readNumber_3; rw [if_neg h2, if_neg h3, if_neg h4]
        exact ⟨by rw [ew], by rw [ew], hB6, by rw [ew]; omega, (tord_stp (by first | assumption | exact hC5))⟩
noncomputable def w_X0_readLine (S : rS) (c : Int) : Int × rS := if (S 1 4) = 1 then if 8 < ((S 1 3) - (S 1 2)) then (0, S) else (1, (stp (mx_up (mx_up S (5 + c) 4 (S 1 2)) (5 + c) 5 ((S 1 3) - (S 1 2))))) else (0, S)
theorem c_X0_readLine {c : Int} {S : rS} (hB : Bd S) (h_t : tord S) (h_c : 0 ≤ c ∧ c < 20) : CS 3 8 [.inr (.inr 3), .inr (.inr (5 + c))] S (fun r' S' => r' = some (.inl ((w_X0_readLine S c).1)) ∧ S' = (w_X0_readLine S c).2 ∧ Bd S' ∧ ((w_X0_readLine S c).1 = 0 ∨ (w_X0_readLine S c).1 = 1) ∧ tord S') := by
  refine RS.beg (ls := [some (.inr (.inr 3)), some (.inr (.inr (5 + c))), none]) rfl rfl rfl rfl rfl ?_
  have b12 : 0 ≤ S 1 2 ∧ S 1 2 ≤ 200 := hB 1 2
  have b13 : 0 ≤ S 1 3 ∧ S 1 3 ≤ 200 := hB 1 3
  refine r_aload (pc' := 1) rfl rfl rfl ?_
  refine r_getr (pc' := 4) (v := 1) rfl rfl rfl rfl rfl ?_
  refine r_getv (pc' := 7) (v := (S 1 3)) rfl rfl (Or.inl rfl) rfl rfl ?_
  have b1 : 0 ≤ S 1 3 ∧ S 1 3 ≤ 200 := hB 1 3
  refine r_aload (pc' := 8) rfl rfl rfl ?_
  refine r_getr (pc' := 11) (v := 1) rfl rfl rfl rfl rfl ?_
  refine r_getv (pc' := 14) (v := (S 1 2)) rfl rfl (Or.inl rfl) rfl rfl ?_
  have b2 : 0 ≤ S 1 2 ∧ S 1 2 ≤ 200 := hB 1 2
  refine r_isub (pc' := 15) rfl rfl ?_
  refine r_istore (pc' := 16) (ls' := [some (.inr (.inr 3)), some (.inr (.inr (5 + c))), some (.inl ((S 1 3) - (S 1 2)))]) rfl rfl rfl rfl ?_
  refine r_aload (pc' := 17) rfl rfl rfl ?_
  refine r_getr (pc' := 20) (v := 1) rfl rfl rfl rfl rfl ?_
  refine r_getv (pc' := 23) (v := (S 1 4)) rfl rfl (Or.inl rfl) rfl rfl ?_
  have b3 : 0 ≤ S 1 4 ∧ S 1 4 ≤ 3 := hB 1 4
  refine r_const (pc' := 24) rfl rfl ?_
  by_cases h4 : (S 1 4) = 1
  · refine r_icmp_ne0 (pc' := 27) rfl rfl (by omega) (by omega) ?_
    refine r_iload (pc' := 28) rfl rfl rfl ?_
    refine r_const (pc' := 30) rfl rfl ?_
    by_cases h5 : 8 < ((S 1 3) - (S 1 2))
    · refine r_icmp_le0 (pc' := 33) rfl rfl (by omega) (by omega) ?_
      refine r_const (pc' := 34) rfl rfl ?_
      refine q_zret rfl rfl rfl (by omega) ?_
      have ew : w_X0_readLine S c = (0, S) := by unfold w_X0_readLine; rw [if_pos h4, if_pos h5]
      exact ⟨by rw [ew], by rw [ew], hB, by rw [ew]; omega, h_t⟩
    · refine r_icmp_le1 (pc' := 35) rfl rfl (by omega) (by omega) ?_
      refine r_aload (pc' := 36) rfl rfl rfl ?_
      refine r_const (pc' := 37) rfl rfl ?_
      refine r_aload (pc' := 38) rfl rfl rfl ?_
      refine r_getr (pc' := 41) (v := 1) rfl rfl rfl rfl rfl ?_
      refine r_getv (pc' := 44) (v := (S 1 2)) rfl rfl (Or.inl rfl) rfl rfl ?_
      refine r_ast (pc' := 45) 6 rfl rfl (shr_5 (by omega)) (by omega) ?_
      refine r_aload (pc' := 46) rfl rfl rfl ?_
      refine r_const (pc' := 47) rfl rfl ?_
      refine r_iload (pc' := 48) rfl rfl rfl ?_
      refine r_ast (pc' := 49) 6 rfl rfl (shr_5 (by omega)) (by omega) ?_
      refine r_aload (pc' := 50) rfl rfl rfl ?_
      refine r_getr (pc' := 53) (v := 1) rfl rfl rfl rfl rfl ?_
      have hC6 : Bd (mx_up (mx_up S (5 + c) 4 (S 1 2)) (5 + c) 5 ((S 1 3) - (S 1 2))) := (Bd_up (Bd_up hB (show _ ≤ (S 1 2) from by rw [(bdp_5_4 (show 0 ≤ c ∧ c < 20 from by omega)).1]; omega) (show (S 1 2) ≤ _ from by rw [(bdp_5_4 (show 0 ≤ c ∧ c < 20 from by omega)).2]; omega)) (show _ ≤ ((S 1 3) - (S 1 2)) from by rw [(bdp_5_5 (show 0 ≤ c ∧ c < 20 from by omega)).1]; omega) (show ((S 1 3) - (S 1 2)) ≤ _ from by rw [(bdp_5_5 (show 0 ≤ c ∧ c < 20 from by omega)).2]; omega))
      refine q_callE (pc' := 56) (w := none) (S2 := stp (mx_up (mx_up S (5 + c) 4 (S 1 2)) (5 + c) 5 ((S 1 3) - (S 1 2)))) (st' := []) rfl rfl rfl (c_X8_step  (S := mx_up (mx_up S (5 + c) 4 (S 1 2)) (5 + c) 5 ((S 1 3) - (S 1 2))) (Bd_up (Bd_up hB (show _ ≤ (S 1 2) from by rw [(bdp_5_4 (show 0 ≤ c ∧ c < 20 from by omega)).1]; omega) (show (S 1 2) ≤ _ from by rw [(bdp_5_4 (show 0 ≤ c ∧ c < 20 from by omega)).2]; omega)) (show _ ≤ ((S 1 3) - (S 1 2)) from by rw [(bdp_5_5 (show 0 ≤ c ∧ c < 20 from by omega)).1]; omega) (show ((S 1 3) - (S 1 2)) ≤ _ from by rw [(bdp_5_5 (show 0 ≤ c ∧ c < 20 from by omega)).2]; omega)) ) (by decide) rfl rfl (Nat.le_of_ble_eq_true rfl) (fun _ _ => ⟨_, _, rfl, rfl⟩) rfl rfl ?_
      have hB7 : Bd (stp (mx_up (mx_up S (5 + c) 4 (S 1 2)) (5 + c) 5 ((S 1 3) - (S 1 2)))) := Bd_stp (Bd_up (Bd_up hB (show _ ≤ (S 1 2) from by rw [(bdp_5_4 (show 0 ≤ c ∧ c < 20 from by omega)).1]; omega) (show (S 1 2) ≤ _ from by rw [(bdp_5_4 (show 0 ≤ c ∧ c < 20 from by omega)).2]; omega)) (show _ ≤ ((S 1 3) - (S 1 2)) from by rw [(bdp_5_5 (show 0 ≤ c ∧ c < 20 from by omega)).1]; omega) (show ((S 1 3) - (S 1 2)) ≤ _ from by rw [(bdp_5_5 (show 0 ≤ c ∧ c < 20 from by omega)).2]; omega))
      refine r_const (pc' := 57) rfl rfl ?_
      refine q_zret rfl rfl rfl (by omega) ?_
      have ew : w_X0_readLine S c = (1, (stp (mx_up (mx_up S (5 + c) 4 (S 1 2)) (5 + c) 5 ((S 1 3) - (S 1 2))))) := by unfold w_X0_readLine; rw [if_pos h4, if_neg h5]
      exact ⟨by rw [ew], by rw [ew], hB7, by rw [ew]; omega, (tord_stp (by first | assumption | exact hC6))⟩
  · refine r_icmp_ne1 (pc' := 33) rfl rfl (by omega) (by omega) ?_
    refine r_const (pc' := 34) rfl rfl ?_
    refine q_zret rfl rfl rfl (by omega) ?_
    have ew : w_X0_readLine S c = (0, S) := by unfold w_X0_readLine; rw [if_neg h4]
    exact ⟨by rw [ew], by rw [ew], hB, by rw [ew]; omega, h_t⟩
noncomputable def w_X0_readGate (S : rS) (c : Int) : Int × rS := if ((w_X0_readNumber_1 S c 0 ((S 3 3) - 1)).1) = 0 then (0, (w_X0_readNumber_1 S c 0 ((S 3 3) - 1)).2) else if (valc ((w_X0_readNumber_1 S c 0 ((S 3 3) - 1)).2)) = (((w_X0_readNumber_1 S c 0 ((S 3 3) - 1)).2) (5 + c) 1) then (0, (w_X0_readNumber_1 S c 0 ((S 3 3) - 1)).2) else if ((w_X0_readNumber_2 ((w_X0_readNumber_1 S c 0 ((S 3 3) - 1)).2) c 0 ((((w_X0_readNumber_1 S c 0 ((S 3 3) - 1)).2) 3 3) - 1)).1) = 0 then (0, (w_X0_readNumber_2 ((w_X0_readNumber_1 S c 0 ((S 3 3) - 1)).2) c 0 ((((w_X0_readNumber_1 S c 0 ((S 3 3) - 1)).2) 3 3) - 1)).2) else if ((w_X0_readNumber_3 ((w_X0_readNumber_2 ((w_X0_readNumber_1 S c 0 ((S 3 3) - 1)).2) c 0 ((((w_X0_readNumber_1 S c 0 ((S 3 3) - 1)).2) 3 3) - 1)).2) c 1 30).1) = 0 then (0, (w_X0_readNumber_3 ((w_X0_readNumber_2 ((w_X0_readNumber_1 S c 0 ((S 3 3) - 1)).2) c 0 ((((w_X0_readNumber_1 S c 0 ((S 3 3) - 1)).2) 3 3) - 1)).2) c 1 30).2) else (1, (w_X0_readNumber_3 ((w_X0_readNumber_2 ((w_X0_readNumber_1 S c 0 ((S 3 3) - 1)).2) c 0 ((((w_X0_readNumber_1 S c 0 ((S 3 3) - 1)).2) 3 3) - 1)).2) c 1 30).2)
theorem c_X0_readGate {c : Int} {S : rS} (hB : Bd S) (h_t : tord S) (h_c : 0 ≤ c ∧ c < 20) : CS 4 7 [.inr (.inr 3), .inr (.inr (5 + c))] S (fun r' S' => r' = some (.inl ((w_X0_readGate S c).1)) ∧ S' = (w_X0_readGate S c).2 ∧ Bd S' ∧ ((w_X0_readGate S c).1 = 0 ∨ (w_X0_readGate S c).1 = 1) ∧ tord S') := by
  refine RS.beg (ls := [some (.inr (.inr 3)), some (.inr (.inr (5 + c)))]) rfl rfl rfl rfl rfl ?_
  refine r_aload (pc' := 1) rfl rfl rfl ?_
  refine r_aload (pc' := 2) rfl rfl rfl ?_
  refine r_const (pc' := 3) rfl rfl ?_
  refine r_const (pc' := 4) rfl rfl ?_
  refine r_aload (pc' := 5) rfl rfl rfl ?_
  refine r_getv (pc' := 8) (v := (S 3 3)) rfl rfl (Or.inl rfl) rfl rfl ?_
  have b1 : 0 ≤ S 3 3 ∧ S 3 3 ≤ 7 := hB 3 3
  refine r_const (pc' := 9) rfl rfl ?_
  refine r_isub (pc' := 10) rfl rfl ?_
  refine q_call (pc' := 13) (P := fun r' S' => r' = some (.inl ((w_X0_readNumber_1 S c (0 : Int) ((S 3 3) - 1)).1)) ∧ S' = (w_X0_readNumber_1 S c (0 : Int) ((S 3 3) - 1)).2 ∧ Bd S' ∧ ((w_X0_readNumber_1 S c (0 : Int) ((S 3 3) - 1)).1 = 0 ∨ (w_X0_readNumber_1 S c (0 : Int) ((S 3 3) - 1)).1 = 1) ∧ tord S') rfl rfl rfl (c_X0_readNumber_1 (c := c) (lo := 0) (hi := ((S 3 3) - 1)) (S := S) hB (show tord S from by first | assumption | omega) (show 0 ≤ c ∧ c < 20 from by omega) (show 0 ≤ (0 : Int) ∧ (0 : Int) ≤ 100 from by omega) (show -1 ≤ ((S 3 3) - 1) ∧ ((S 3 3) - 1) ≤ 99 from by omega)) (by decide) rfl rfl (Nat.le_of_ble_eq_true rfl) (fun _ _ => ⟨_, _, rfl, rfl⟩) rfl ?_
  rintro _ _ ⟨rfl, rfl, hB2, hr2, he2⟩ hz2
  show RS _ _ _ _ _ [.inl ((w_X0_readNumber_1 S c 0 ((S 3 3) - 1)).1)] (w_X0_readNumber_1 S c 0 ((S 3 3) - 1)).2
  by_cases h3 : ((w_X0_readNumber_1 S c 0 ((S 3 3) - 1)).1) = 0
  · refine r_if_eq1 (pc' := 29) rfl rfl (by omega) (by omega) ?_
    refine r_const (pc' := 30) rfl rfl ?_
    refine q_zret rfl rfl rfl (by omega) ?_
    have ew : w_X0_readGate S c = (0, (w_X0_readNumber_1 S c 0 ((S 3 3) - 1)).2) := by unfold w_X0_readGate; rw [if_pos h3]
    exact ⟨by rw [ew], by rw [ew], hB2, by rw [ew]; omega, (by assumption)⟩
  · refine r_if_eq0 (pc' := 16) rfl rfl (by omega) (by omega) ?_
    refine r_aload (pc' := 17) rfl rfl rfl ?_
    refine r_getr (pc' := 20) (v := 1) rfl rfl rfl rfl rfl ?_
    refine q_callE (pc' := 23) (w := some (.inl (valc ((w_X0_readNumber_1 S c 0 ((S 3 3) - 1)).2)))) (S2 := (w_X0_readNumber_1 S c 0 ((S 3 3) - 1)).2) (st' := [.inl (valc ((w_X0_readNumber_1 S c 0 ((S 3 3) - 1)).2))]) rfl rfl rfl (c_X8_value  (S := (w_X0_readNumber_1 S c 0 ((S 3 3) - 1)).2) hB2 (show (0 ≤ ((w_X0_readNumber_1 S c 0 ((S 3 3) - 1)).2) 1 2 ∧ ((w_X0_readNumber_1 S c 0 ((S 3 3) - 1)).2) 1 2 ≤ ((w_X0_readNumber_1 S c 0 ((S 3 3) - 1)).2) 1 3) ∧ ((w_X0_readNumber_1 S c 0 ((S 3 3) - 1)).2) 1 3 ≤ 200 from by first | assumption | omega)) (by decide) rfl rfl (Nat.le_of_ble_eq_true rfl) (fun _ _ => ⟨_, _, rfl, rfl⟩) rfl rfl ?_
    have b4 : -600 ≤ (valc ((w_X0_readNumber_1 S c 0 ((S 3 3) - 1)).2)) ∧ (valc ((w_X0_readNumber_1 S c 0 ((S 3 3) - 1)).2)) ≤ 3000 := valc_b hB2
    refine r_aload (pc' := 24) rfl rfl rfl ?_
    refine r_const (pc' := 25) rfl rfl ?_
    refine r_aldv (pc' := 26) (v := (((w_X0_readNumber_1 S c 0 ((S 3 3) - 1)).2) (5 + c) 1)) 6 rfl rfl (shr_5 (by omega)) (by omega) rfl ?_
    have b5 : 0 ≤ ((w_X0_readNumber_1 S c 0 ((S 3 3) - 1)).2) (5 + c) 1 ∧ ((w_X0_readNumber_1 S c 0 ((S 3 3) - 1)).2) (5 + c) 1 ≤ 99 := bdo_5_1 hB2 (by omega)
    by_cases h6 : (valc ((w_X0_readNumber_1 S c 0 ((S 3 3) - 1)).2)) = (((w_X0_readNumber_1 S c 0 ((S 3 3) - 1)).2) (5 + c) 1)
    · refine r_icmp_ne0 (pc' := 29) rfl rfl (by omega) (by omega) ?_
      refine r_const (pc' := 30) rfl rfl ?_
      refine q_zret rfl rfl rfl (by omega) ?_
      have ew : w_X0_readGate S c = (0, (w_X0_readNumber_1 S c 0 ((S 3 3) - 1)).2) := by unfold w_X0_readGate; rw [if_neg h3, if_pos h6]
      exact ⟨by rw [ew], by rw [ew], hB2, by rw [ew]; omega, (by assumption)⟩
    · refine r_icmp_ne1 (pc' := 31) rfl rfl (by omega) (by omega) ?_
      refine r_aload (pc' := 32) rfl rfl rfl ?_
      refine r_aload (pc' := 33) rfl rfl rfl ?_
      refine r_const (pc' := 34) rfl rfl ?_
      refine r_const (pc' := 35) rfl rfl ?_
      refine r_aload (pc' := 36) rfl rfl rfl ?_
      refine r_getv (pc' := 39) (v := (((w_X0_readNumber_1 S c 0 ((S 3 3) - 1)).2) 3 3)) rfl rfl (Or.inl rfl) rfl rfl ?_
      have b7 : 0 ≤ ((w_X0_readNumber_1 S c 0 ((S 3 3) - 1)).2) 3 3 ∧ ((w_X0_readNumber_1 S c 0 ((S 3 3) - 1)).2) 3 3 ≤ 7 := hB2 3 3
      refine r_const (pc' := 40) rfl rfl ?_
      refine r_isub (pc' := 41) rfl rfl ?_
      refine q_call (pc' := 44) (P := fun r' S' => r' = some (.inl ((w_X0_readNumber_2 ((w_X0_readNumber_1 S c 0 ((S 3 3) - 1)).2) c (0 : Int) ((((w_X0_readNumber_1 S c 0 ((S 3 3) - 1)).2) 3 3) - 1)).1)) ∧ S' = (w_X0_readNumber_2 ((w_X0_readNumber_1 S c 0 ((S 3 3) - 1)).2) c (0 : Int) ((((w_X0_readNumber_1 S c 0 ((S 3 3) - 1)).2) 3 3) - 1)).2 ∧ Bd S' ∧ ((w_X0_readNumber_2 ((w_X0_readNumber_1 S c 0 ((S 3 3) - 1)).2) c (0 : Int) ((((w_X0_readNumber_1 S c 0 ((S 3 3) - 1)).2) 3 3) - 1)).1 = 0 ∨ (w_X0_readNumber_2 ((w_X0_readNumber_1 S c 0 ((S 3 3) - 1)).2) c (0 : Int) ((((w_X0_readNumber_1 S c 0 ((S 3 3) - 1)).2) 3 3) - 1)).1 = 1) ∧ tord S') rfl rfl rfl (c_X0_readNumber_2 (c := c) (lo := 0) (hi := ((((w_X0_readNumber_1 S c 0 ((S 3 3) - 1)).2) 3 3) - 1)) (S := (w_X0_readNumber_1 S c 0 ((S 3 3) - 1)).2) hB2 (show tord ((w_X0_readNumber_1 S c 0 ((S 3 3) - 1)).2) from by first | assumption | omega) (show 0 ≤ c ∧ c < 20 from by omega) (show 0 ≤ (0 : Int) ∧ (0 : Int) ≤ 100 from by omega) (show -1 ≤ ((((w_X0_readNumber_1 S c 0 ((S 3 3) - 1)).2) 3 3) - 1) ∧ ((((w_X0_readNumber_1 S c 0 ((S 3 3) - 1)).2) 3 3) - 1) ≤ 9 from by omega)) (by decide) rfl rfl (Nat.le_of_ble_eq_true rfl) (fun _ _ => ⟨_, _, rfl, rfl⟩) rfl ?_
      rintro _ _ ⟨rfl, rfl, hB8, hr8, he8⟩ hz8
      show RS _ _ _ _ _ [.inl ((w_X0_readNumber_2 ((w_X0_readNumber_1 S c 0 ((S 3 3) - 1)).2) c 0 ((((w_X0_readNumber_1 S c 0 ((S 3 3) - 1)).2) 3 3) - 1)).1)] (w_X0_readNumber_2 ((w_X0_readNumber_1 S c 0 ((S 3 3) - 1)).2) c 0 ((((w_X0_readNumber_1 S c 0 ((S 3 3) - 1)).2) 3 3) - 1)).2
      by_cases h9 : ((w_X0_readNumber_2 ((w_X0_readNumber_1 S c 0 ((S 3 3) - 1)).2) c 0 ((((w_X0_readNumber_1 S c 0 ((S 3 3) - 1)).2) 3 3) - 1)).1) = 0
      · refine r_if_eq1 (pc' := 63) rfl rfl (by omega) (by omega) ?_
        refine r_const (pc' := 64) rfl rfl ?_
        refine q_zret rfl rfl rfl (by omega) ?_
        have ew : w_X0_readGate S c = (0, (w_X0_readNumber_2 ((w_X0_readNumber_1 S c 0 ((S 3 3) - 1)).2) c 0 ((((w_X0_readNumber_1 S c 0 ((S 3 3) - 1)).2) 3 3) - 1)).2) := by unfold w_X0_readGate; rw [if_neg h3, if_neg h6, if_pos h9]
        exact ⟨by rw [ew], by rw [ew], hB8, by rw [ew]; omega, (by assumption)⟩
      · refine r_if_eq0 (pc' := 47) rfl rfl (by omega) (by omega) ?_
        refine r_aload (pc' := 48) rfl rfl rfl ?_
        refine r_aload (pc' := 49) rfl rfl rfl ?_
        refine r_const (pc' := 50) rfl rfl ?_
        refine r_const (pc' := 51) rfl rfl ?_
        refine r_const (pc' := 53) rfl rfl ?_
        refine q_call (pc' := 56) (P := fun r' S' => r' = some (.inl ((w_X0_readNumber_3 ((w_X0_readNumber_2 ((w_X0_readNumber_1 S c 0 ((S 3 3) - 1)).2) c 0 ((((w_X0_readNumber_1 S c 0 ((S 3 3) - 1)).2) 3 3) - 1)).2) c (1 : Int) (30 : Int)).1)) ∧ S' = (w_X0_readNumber_3 ((w_X0_readNumber_2 ((w_X0_readNumber_1 S c 0 ((S 3 3) - 1)).2) c 0 ((((w_X0_readNumber_1 S c 0 ((S 3 3) - 1)).2) 3 3) - 1)).2) c (1 : Int) (30 : Int)).2 ∧ Bd S' ∧ ((w_X0_readNumber_3 ((w_X0_readNumber_2 ((w_X0_readNumber_1 S c 0 ((S 3 3) - 1)).2) c 0 ((((w_X0_readNumber_1 S c 0 ((S 3 3) - 1)).2) 3 3) - 1)).2) c (1 : Int) (30 : Int)).1 = 0 ∨ (w_X0_readNumber_3 ((w_X0_readNumber_2 ((w_X0_readNumber_1 S c 0 ((S 3 3) - 1)).2) c 0 ((((w_X0_readNumber_1 S c 0 ((S 3 3) - 1)).2) 3 3) - 1)).2) c (1 : Int) (30 : Int)).1 = 1) ∧ tord S') rfl rfl rfl (c_X0_readNumber_3 (c := c) (lo := 1) (hi := 30) (S := (w_X0_readNumber_2 ((w_X0_readNumber_1 S c 0 ((S 3 3) - 1)).2) c 0 ((((w_X0_readNumber_1 S c 0 ((S 3 3) - 1)).2) 3 3) - 1)).2) hB8 (show tord ((w_X0_readNumber_2 ((w_X0_readNumber_1 S c 0 ((S 3 3) - 1)).2) c 0 ((((w_X0_readNumber_1 S c 0 ((S 3 3) - 1)).2) 3 3) - 1)).2) from by first | assumption | omega) (show 0 ≤ c ∧ c < 20 from by omega) (show 0 ≤ (1 : Int) ∧ (1 : Int) ≤ 100 from by omega) (show -1 ≤ (30 : Int) ∧ (30 : Int) ≤ 30 from by omega)) (by decide) rfl rfl (Nat.le_of_ble_eq_true rfl) (fun _ _ => ⟨_, _, rfl, rfl⟩) rfl ?_
        rintro _ _ ⟨rfl, rfl, hB10, hr10, he10⟩ hz10
        show RS _ _ _ _ _ [.inl ((w_X0_readNumber_3 ((w_X0_readNumber_2 ((w_X0_readNumber_1 S c 0 ((S 3 3) - 1)).2) c 0 ((((w_X0_readNumber_1 S c 0 ((S 3 3) - 1)).2) 3 3) - 1)).2) c 1 30).1)] (w_X0_readNumber_3 ((w_X0_readNumber_2 ((w_X0_readNumber_1 S c 0 ((S 3 3) - 1)).2) c 0 ((((w_X0_readNumber_1 S c 0 ((S 3 3) - 1)).2) 3 3) - 1)).2) c 1 30).2
        by_cases h11 : ((w_X0_readNumber_3 ((w_X0_readNumber_2 ((w_X0_readNumber_1 S c 0 ((S 3 3) - 1)).2) c 0 ((((w_X0_readNumber_1 S c 0 ((S 3 3) - 1)).2) 3 3) - 1)).2) c 1 30).1) = 0
        · refine r_if_eq1 (pc' := 63) rfl rfl (by omega) (by omega) ?_
          refine r_const (pc' := 64) rfl rfl ?_
          refine q_zret rfl rfl rfl (by omega) ?_
          have ew : w_X0_readGate S c = (0, (w_X0_readNumber_3 ((w_X0_readNumber_2 ((w_X0_readNumber_1 S c 0 ((S 3 3) - 1)).2) c 0 ((((w_X0_readNumber_1 S c 0 ((S 3 3) - 1)).2) 3 3) - 1)).2) c 1 30).2) := by unfold w_X0_readGate; rw [if_neg h3, if_neg h6, if_neg h9, if_pos h11]
          exact ⟨by rw [ew], by rw [ew], hB10, by rw [ew]; omega, (by assumption)⟩
        · refine r_if_eq0 (pc' := 59) rfl rfl (by omega) (by omega) ?_
          refine r_const (pc' := 60) rfl rfl ?_
          refine r_goto (pc' := 64) rfl rfl ?_
          refine q_zret rfl rfl rfl (by omega) ?_
          have ew : w_X0_readGate S c = (1, (w_X0_readNumber_3 ((w_X0_readNumber_2 ((w_X0_readNumber_1 S c 0 ((S 3 3) - 1)).2) c 0 ((((w_X0_readNumber_1 S c 0 ((S 3 3) - 1)).2) 3 3) - 1)).2) c 1 30).2) := by unfold w_X0_readGate; rw [if_neg h3, if_neg h6, if_neg h9, if_neg h11]
          exact ⟨by rw [ew], by rw [ew], hB10, by rw [ew]; omega, (by assumption)⟩
