/-- a word fits what is left of a line, as the reference has it -/
def fitM (S : rS) (f w wh q : Int) : Prop := (tb (S 236 (0 + f)) q → S 233 (122 + 8 * w + q) = S 233 (29 + 8 * f + q)) ∧ (¬ tb (S 236 (0 + f)) q → wh = 0 ∨ btake (S 233 (1 + f)) (S 233 (122 + 8 * w + q)))
abbrev fitv (S : rS) (f w wh : Int) : Prop := S 233 (114 + w) = S 233 (22 + f) ∧ ∀ q, 0 ≤ q → q < S 233 (22 + f) → fitM S f w wh q
theorem c_X11_couldBe {f : Int} {w : Int} {wh : Int} {S : rS} (hB : Bd S) (h_f : 0 ≤ f ∧ f < 7) (h_w : 0 ≤ w ∧ w < 8) (h_wh : -2147483648 ≤ wh ∧ wh < 2147483648) : CS 2 70 [.inr (.inr 232), .inl f, .inl w, .inl wh] S (fun r' S' => r' = some (.inl (bi (fitv S f w wh))) ∧ S' = S) := by
  refine RS.beg (ls := [some (.inr (.inr 232)), some (.inl f), some (.inl w), some (.inl wh), none, none, none]) rfl rfl rfl rfl rfl ?_
  have b22 := bdc_233_22 hB f
  refine r_aload (pc' := 1) rfl rfl rfl ?_
  refine r_getr (pc' := 4) (v := 233) rfl rfl rfl rfl rfl ?_
  refine r_const (pc' := 6) rfl rfl ?_
  refine r_iload (pc' := 7) rfl rfl rfl ?_
  refine r_iadd (pc' := 8) rfl rfl ?_
  refine r_aldv (pc' := 9) (v := (S 233 (114 + w))) 187 rfl rfl rfl (by omega) rfl ?_
  have b1 := bdc_233_114 hB w
  refine r_aload (pc' := 10) rfl rfl rfl ?_
  refine r_getr (pc' := 13) (v := 233) rfl rfl rfl rfl rfl ?_
  refine r_const (pc' := 15) rfl rfl ?_
  refine r_iload (pc' := 16) rfl rfl rfl ?_
  refine r_iadd (pc' := 17) rfl rfl ?_
  refine r_aldv (pc' := 18) (v := (S 233 (22 + f))) 187 rfl rfl rfl (by omega) rfl ?_
  have b2 := bdc_233_22 hB f
  by_cases h3 : (S 233 (114 + w)) = (S 233 (22 + f))
  · refine r_icmp_ne0 (pc' := 21) rfl rfl (by omega) (by omega) ?_
    refine r_const (pc' := 22) rfl rfl ?_
    refine r_goto (pc' := 26) rfl rfl ?_
    refine r_istore (pc' := 28) (ls' := [some (.inr (.inr 232)), some (.inl f), some (.inl w), some (.inl wh), some (.inl 1), none, none]) rfl rfl rfl rfl ?_
    refine r_const (pc' := 29) rfl rfl ?_
    refine r_istore (pc' := 31) (ls' := [some (.inr (.inr 232)), some (.inl f), some (.inl w), some (.inl wh), some (.inl 1), some (.inl 0), none]) rfl rfl rfl rfl ?_
    refine r_while (α := Int × Int) (fun z' => [some (.inr (.inr 232)), some (.inl f), some (.inl w), some (.inl wh), some (.inl z'.1), some (.inl z'.2), none]) (fun z' => S) (fun z' => (0 ≤ z'.2 ∧ z'.2 ≤ S 233 (22 + f)) ∧ (z'.1 = 0 ∨ z'.1 = 1) ∧ (z'.1 = 1 → S 233 (114 + w) = S 233 (22 + f) ∧ ∀ yy, 0 ≤ yy → yy < z'.2 → fitM S f w wh yy) ∧ (z'.1 = 0 → ¬ fitv S f w wh)) (fun z' => (S 233 (22 + f) - z'.2).toNat) ?_ (1, 0) (show (0 ≤ (0 : Int) ∧ (0 : Int) ≤ S 233 (22 + f)) ∧ ((1 : Int) = 0 ∨ (1 : Int) = 1) ∧ ((1 : Int) = 1 → S 233 (114 + w) = S 233 (22 + f) ∧ ∀ yy, 0 ≤ yy → yy < (0 : Int) → fitM S f w wh yy) ∧ ((1 : Int) = 0 → ¬ fitv S f w wh) from by first | exact ⟨by omega, by omega, fun _ => ⟨by assumption, fun y h1 h2 => absurd h2 (by omega)⟩, fun z => absurd z (by omega)⟩ | exact ⟨by omega, by omega, fun z => absurd z (by omega), fun _ z => absurd z.1 (by assumption)⟩)
    rintro ⟨u, q⟩ hI' ih31
    have hI' : (0 ≤ q ∧ q ≤ S 233 (22 + f)) ∧ (u = 0 ∨ u = 1) ∧ (u = 1 → S 233 (114 + w) = S 233 (22 + f) ∧ ∀ yy, 0 ≤ yy → yy < q → fitM S f w wh yy) ∧ (u = 0 → ¬ fitv S f w wh) := hI'
    obtain ⟨i1, i2, i3, i4⟩ := hI'
    show RS _ _ _ _ [some (.inr (.inr 232)), some (.inl f), some (.inl w), some (.inl wh), some (.inl u), some (.inl q), none] [] S
    refine r_iload (pc' := 33) rfl rfl rfl ?_
    refine r_aload (pc' := 34) rfl rfl rfl ?_
    refine r_getr (pc' := 37) (v := 233) rfl rfl rfl rfl rfl ?_
    refine r_const (pc' := 39) rfl rfl ?_
    refine r_iload (pc' := 40) rfl rfl rfl ?_
    refine r_iadd (pc' := 41) rfl rfl ?_
    refine r_aldv (pc' := 42) (v := (S 233 (22 + f))) 187 rfl rfl rfl (by omega) rfl ?_
    by_cases h4 : q < (S 233 (22 + f))
    · refine r_icmp_ge0 (pc' := 45) rfl rfl (by omega) (by omega) ?_
      refine r_iload (pc' := 47) rfl rfl rfl ?_
      by_cases h5 : u = 0
      · refine r_if_eq1 (pc' := 144) rfl rfl (by omega) (by omega) ?_
        refine r_iload (pc' := 146) rfl rfl rfl ?_
        refine q_zret rfl rfl rfl (by omega) ?_
        rcases i2 with rfl | rfl
        · exact ⟨bi_f (i4 rfl), rfl⟩
        · exact ⟨bi_t ⟨(i3 rfl).1, fun y h1 h2 => (i3 rfl).2 y h1 (by omega)⟩, rfl⟩
      · refine r_if_eq0 (pc' := 50) rfl rfl (by omega) (by omega) ?_
        refine r_aload (pc' := 51) rfl rfl rfl ?_
        refine r_getr (pc' := 54) (v := 233) rfl rfl rfl rfl rfl ?_
        refine r_const (pc' := 56) rfl rfl ?_
        refine r_const (pc' := 58) rfl rfl ?_
        refine r_iload (pc' := 59) rfl rfl rfl ?_
        refine r_imul (pc' := 60) rfl rfl ?_
        refine r_iadd (pc' := 61) rfl rfl ?_
        refine r_iload (pc' := 63) rfl rfl rfl ?_
        refine r_iadd (pc' := 64) rfl rfl ?_
        refine r_aldv (pc' := 65) (v := (S 233 ((122 + (8 * w)) + q))) 187 rfl rfl rfl (by omega) rfl ?_
        have b6 := bda_233 hB ((122 + (8 * w)) + q)
        refine r_istore (pc' := 67) (ls' := [some (.inr (.inr 232)), some (.inl f), some (.inl w), some (.inl wh), some (.inl u), some (.inl q), some (.inl (S 233 ((122 + (8 * w)) + q)))]) rfl rfl rfl rfl ?_
        refine r_aload (pc' := 68) rfl rfl rfl ?_
        refine r_getr (pc' := 71) (v := 236) rfl rfl rfl rfl rfl ?_
        refine r_const (pc' := 72) rfl rfl ?_
        refine r_iload (pc' := 73) rfl rfl rfl ?_
        refine r_iadd (pc' := 74) rfl rfl ?_
        refine r_aldv (pc' := 75) (v := (S 236 (0 + f))) 12 rfl rfl rfl (by omega) rfl ?_
        have b7 := bdc_236_0 hB f
        refine r_iload (pc' := 77) rfl rfl rfl ?_
        by_cases h8 : tb (S 236 (0 + f)) q
        · skip
          refine q_callE (pc' := 80) (w := some (.inl 1)) (S2 := S) (st' := [.inl 1]) rfl rfl rfl (bi_pos h8 (c_X11_has (s := (S 236 (0 + f))) (q := q) (S := S)  (show -2147483648 ≤ (S 236 (0 + f)) ∧ (S 236 (0 + f)) < 2147483648 from by omega) (show 0 ≤ q ∧ q < 32 from by omega))) (by decide) rfl rfl (Nat.le_of_ble_eq_true rfl) (fun q => absurd rfl q) rfl rfl ?_
          refine r_if_eq0 (pc' := 83) rfl rfl (by decide) (by decide) ?_
          refine r_iload (pc' := 85) rfl rfl rfl ?_
          refine r_aload (pc' := 86) rfl rfl rfl ?_
          refine r_getr (pc' := 89) (v := 233) rfl rfl rfl rfl rfl ?_
          refine r_const (pc' := 91) rfl rfl ?_
          refine r_const (pc' := 93) rfl rfl ?_
          refine r_iload (pc' := 94) rfl rfl rfl ?_
          refine r_imul (pc' := 95) rfl rfl ?_
          refine r_iadd (pc' := 96) rfl rfl ?_
          refine r_iload (pc' := 98) rfl rfl rfl ?_
          refine r_iadd (pc' := 99) rfl rfl ?_
          refine r_aldv (pc' := 100) (v := (S 233 ((29 + (8 * f)) + q))) 187 rfl rfl rfl (by omega) rfl ?_
          have b9 := bda_233 hB ((29 + (8 * f)) + q)
          by_cases h10 : (S 233 ((122 + (8 * w)) + q)) = (S 233 ((29 + (8 * f)) + q))
          · refine r_icmp_ne0 (pc' := 103) rfl rfl (by omega) (by omega) ?_
            refine r_const (pc' := 104) rfl rfl ?_
            refine r_goto (pc' := 136) rfl rfl ?_
            refine r_istore (pc' := 138) (ls' := [some (.inr (.inr 232)), some (.inl f), some (.inl w), some (.inl wh), some (.inl 1), some (.inl q), some (.inl (S 233 ((122 + (8 * w)) + q)))]) rfl rfl rfl rfl ?_
            refine r_iinc (pc' := 141) (ls' := [some (.inr (.inr 232)), some (.inl f), some (.inl w), some (.inl wh), some (.inl 1), some (.inl (q + 1)), some (.inl (S 233 ((122 + (8 * w)) + q)))]) rfl rfl rfl rfl rfl ?_
            refine r_goto (pc' := 31) rfl rfl ?_
            refine r_forget [true, true, true, true, true, true, false] rfl ?_
            exact ih31 (1, (q + 1)) (show (0 ≤ (q + 1) ∧ (q + 1) ≤ S 233 (22 + f)) ∧ ((1 : Int) = 0 ∨ (1 : Int) = 1) ∧ ((1 : Int) = 1 → S 233 (114 + w) = S 233 (22 + f) ∧ ∀ yy, 0 ≤ yy → yy < (q + 1) → fitM S f w wh yy) ∧ ((1 : Int) = 0 → ¬ fitv S f w wh) from by exact ⟨by omega, by omega, fun _ => ⟨(i3 (by omega)).1, fun y h1 h2 => by
          by_cases hy : y < q
          · exact (i3 (by omega)).2 y h1 hy
          · obtain rfl : y = q := by omega
            exact ⟨fun _ => by omega, fun z => absurd h8 z⟩⟩, fun z => absurd z (by omega)⟩) (show (S 233 (22 + f) - (q + 1)).toNat < (S 233 (22 + f) - q).toNat from by omega)
          · refine r_icmp_ne1 (pc' := 107) rfl rfl (by omega) (by omega) ?_
            refine r_const (pc' := 108) rfl rfl ?_
            refine r_goto (pc' := 136) rfl rfl ?_
            refine r_istore (pc' := 138) (ls' := [some (.inr (.inr 232)), some (.inl f), some (.inl w), some (.inl wh), some (.inl 0), some (.inl q), some (.inl (S 233 ((122 + (8 * w)) + q)))]) rfl rfl rfl rfl ?_
            refine r_iinc (pc' := 141) (ls' := [some (.inr (.inr 232)), some (.inl f), some (.inl w), some (.inl wh), some (.inl 0), some (.inl (q + 1)), some (.inl (S 233 ((122 + (8 * w)) + q)))]) rfl rfl rfl rfl rfl ?_
            refine r_goto (pc' := 31) rfl rfl ?_
            refine r_forget [true, true, true, true, true, true, false] rfl ?_
            exact ih31 (0, (q + 1)) (show (0 ≤ (q + 1) ∧ (q + 1) ≤ S 233 (22 + f)) ∧ ((0 : Int) = 0 ∨ (0 : Int) = 1) ∧ ((0 : Int) = 1 → S 233 (114 + w) = S 233 (22 + f) ∧ ∀ yy, 0 ≤ yy → yy < (q + 1) → fitM S f w wh yy) ∧ ((0 : Int) = 0 → ¬ fitv S f w wh) from by exact ⟨by omega, by omega, fun z => absurd z (by omega), fun _ z => absurd ((z.2 q (by omega) (by omega)).1 h8) (by omega)⟩) (show (S 233 (22 + f) - (q + 1)).toNat < (S 233 (22 + f) - q).toNat from by omega)
        · skip
          refine q_callE (pc' := 80) (w := some (.inl 0)) (S2 := S) (st' := [.inl 0]) rfl rfl rfl (bi_neg h8 (c_X11_has (s := (S 236 (0 + f))) (q := q) (S := S)  (show -2147483648 ≤ (S 236 (0 + f)) ∧ (S 236 (0 + f)) < 2147483648 from by omega) (show 0 ≤ q ∧ q < 32 from by omega))) (by decide) rfl rfl (Nat.le_of_ble_eq_true rfl) (fun q => absurd rfl q) rfl rfl ?_
          refine r_if_eq1 (pc' := 111) rfl rfl (by decide) (by decide) ?_
          refine r_iload (pc' := 112) rfl rfl rfl ?_
          by_cases h11 : wh = 0
          · refine r_if_eq1 (pc' := 131) rfl rfl (by omega) (by omega) ?_
            refine r_const (pc' := 132) rfl rfl ?_
            refine r_goto (pc' := 136) rfl rfl ?_
            refine r_istore (pc' := 138) (ls' := [some (.inr (.inr 232)), some (.inl f), some (.inl w), some (.inl wh), some (.inl 1), some (.inl q), some (.inl (S 233 ((122 + (8 * w)) + q)))]) rfl rfl rfl rfl ?_
            refine r_iinc (pc' := 141) (ls' := [some (.inr (.inr 232)), some (.inl f), some (.inl w), some (.inl wh), some (.inl 1), some (.inl (q + 1)), some (.inl (S 233 ((122 + (8 * w)) + q)))]) rfl rfl rfl rfl rfl ?_
            refine r_goto (pc' := 31) rfl rfl ?_
            refine r_forget [true, true, true, true, true, true, false] rfl ?_
            exact ih31 (1, (q + 1)) (show (0 ≤ (q + 1) ∧ (q + 1) ≤ S 233 (22 + f)) ∧ ((1 : Int) = 0 ∨ (1 : Int) = 1) ∧ ((1 : Int) = 1 → S 233 (114 + w) = S 233 (22 + f) ∧ ∀ yy, 0 ≤ yy → yy < (q + 1) → fitM S f w wh yy) ∧ ((1 : Int) = 0 → ¬ fitv S f w wh) from by exact ⟨by omega, by omega, fun _ => ⟨(i3 (by omega)).1, fun y h1 h2 => by
          by_cases hy : y < q
          · exact (i3 (by omega)).2 y h1 hy
          · obtain rfl : y = q := by omega
            exact ⟨fun z => absurd z h8, fun _ => Or.inl (by omega)⟩⟩, fun z => absurd z (by omega)⟩) (show (S 233 (22 + f) - (q + 1)).toNat < (S 233 (22 + f) - q).toNat from by omega)
          · refine r_if_eq0 (pc' := 115) rfl rfl (by omega) (by omega) ?_
            refine r_aload (pc' := 116) rfl rfl rfl ?_
            refine r_getr (pc' := 119) (v := 233) rfl rfl rfl rfl rfl ?_
            refine r_const (pc' := 120) rfl rfl ?_
            refine r_iload (pc' := 121) rfl rfl rfl ?_
            refine r_iadd (pc' := 122) rfl rfl ?_
            refine r_aldv (pc' := 123) (v := (S 233 (1 + f))) 187 rfl rfl rfl (by omega) rfl ?_
            have b12 := bdc_233_1 hB f
            refine r_iload (pc' := 125) rfl rfl rfl ?_
            by_cases h13 : btake (S 233 (1 + f)) (S 233 ((122 + (8 * w)) + q))
            · skip
              refine q_callE (pc' := 128) (w := some (.inl 1)) (S2 := S) (st' := [.inl 1]) rfl rfl rfl (bi_pos h13 (c_X11_birdsTake (k := (S 233 (1 + f))) (c := (S 233 ((122 + (8 * w)) + q))) (S := S)  (show -2147483648 ≤ (S 233 (1 + f)) ∧ (S 233 (1 + f)) < 2147483648 from by omega) (show -2147483648 ≤ (S 233 ((122 + (8 * w)) + q)) ∧ (S 233 ((122 + (8 * w)) + q)) < 2147483648 from by omega))) (by decide) rfl rfl (Nat.le_of_ble_eq_true rfl) (fun q => absurd rfl q) rfl rfl ?_
              refine r_if_eq0 (pc' := 131) rfl rfl (by decide) (by decide) ?_
              refine r_const (pc' := 132) rfl rfl ?_
              refine r_goto (pc' := 136) rfl rfl ?_
              refine r_istore (pc' := 138) (ls' := [some (.inr (.inr 232)), some (.inl f), some (.inl w), some (.inl wh), some (.inl 1), some (.inl q), some (.inl (S 233 ((122 + (8 * w)) + q)))]) rfl rfl rfl rfl ?_
              refine r_iinc (pc' := 141) (ls' := [some (.inr (.inr 232)), some (.inl f), some (.inl w), some (.inl wh), some (.inl 1), some (.inl (q + 1)), some (.inl (S 233 ((122 + (8 * w)) + q)))]) rfl rfl rfl rfl rfl ?_
              refine r_goto (pc' := 31) rfl rfl ?_
              refine r_forget [true, true, true, true, true, true, false] rfl ?_
              exact ih31 (1, (q + 1)) (show (0 ≤ (q + 1) ∧ (q + 1) ≤ S 233 (22 + f)) ∧ ((1 : Int) = 0 ∨ (1 : Int) = 1) ∧ ((1 : Int) = 1 → S 233 (114 + w) = S 233 (22 + f) ∧ ∀ yy, 0 ≤ yy → yy < (q + 1) → fitM S f w wh yy) ∧ ((1 : Int) = 0 → ¬ fitv S f w wh) from by exact ⟨by omega, by omega, fun _ => ⟨(i3 (by omega)).1, fun y h1 h2 => by
          by_cases hy : y < q
          · exact (i3 (by omega)).2 y h1 hy
          · obtain rfl : y = q := by omega
            exact ⟨fun z => absurd z h8, fun _ => Or.inr h13⟩⟩, fun z => absurd z (by omega)⟩) (show (S 233 (22 + f) - (q + 1)).toNat < (S 233 (22 + f) - q).toNat from by omega)
            · skip
              refine q_callE (pc' := 128) (w := some (.inl 0)) (S2 := S) (st' := [.inl 0]) rfl rfl rfl (bi_neg h13 (c_X11_birdsTake (k := (S 233 (1 + f))) (c := (S 233 ((122 + (8 * w)) + q))) (S := S)  (show -2147483648 ≤ (S 233 (1 + f)) ∧ (S 233 (1 + f)) < 2147483648 from by omega) (show -2147483648 ≤ (S 233 ((122 + (8 * w)) + q)) ∧ (S 233 ((122 + (8 * w)) + q)) < 2147483648 from by omega))) (by decide) rfl rfl (Nat.le_of_ble_eq_true rfl) (fun q => absurd rfl q) rfl rfl ?_
              refine r_if_eq1 (pc' := 135) rfl rfl (by decide) (by decide) ?_
              refine r_const (pc' := 136) rfl rfl ?_
              refine r_istore (pc' := 138) (ls' := [some (.inr (.inr 232)), some (.inl f), some (.inl w), some (.inl wh), some (.inl 0), some (.inl q), some (.inl (S 233 ((122 + (8 * w)) + q)))]) rfl rfl rfl rfl ?_
              refine r_iinc (pc' := 141) (ls' := [some (.inr (.inr 232)), some (.inl f), some (.inl w), some (.inl wh), some (.inl 0), some (.inl (q + 1)), some (.inl (S 233 ((122 + (8 * w)) + q)))]) rfl rfl rfl rfl rfl ?_
              refine r_goto (pc' := 31) rfl rfl ?_
              refine r_forget [true, true, true, true, true, true, false] rfl ?_
              exact ih31 (0, (q + 1)) (show (0 ≤ (q + 1) ∧ (q + 1) ≤ S 233 (22 + f)) ∧ ((0 : Int) = 0 ∨ (0 : Int) = 1) ∧ ((0 : Int) = 1 → S 233 (114 + w) = S 233 (22 + f) ∧ ∀ yy, 0 ≤ yy → yy < (q + 1) → fitM S f w wh yy) ∧ ((0 : Int) = 0 → ¬ fitv S f w wh) from by exact ⟨by omega, by omega, fun z => absurd z (by omega), fun _ z => ((z.2 q (by omega) (by omega)).2 h8).elim (by omega) h13⟩) (show (S 233 (22 + f) - (q + 1)).toNat < (S 233 (22 + f) - q).toNat from by omega)
    · refine r_icmp_ge1 (pc' := 144) rfl rfl (by omega) (by omega) ?_
      refine r_iload (pc' := 146) rfl rfl rfl ?_
      refine q_zret rfl rfl rfl (by omega) ?_
      rcases i2 with rfl | rfl
      · exact ⟨bi_f (i4 rfl), rfl⟩
      · exact ⟨bi_t ⟨(i3 rfl).1, fun y h1 h2 => (i3 rfl).2 y h1 (by omega)⟩, rfl⟩
  · refine r_icmp_ne1 (pc' := 25) rfl rfl (by omega) (by omega) ?_
    refine r_const (pc' := 26) rfl rfl ?_
    refine r_istore (pc' := 28) (ls' := [some (.inr (.inr 232)), some (.inl f), some (.inl w), some (.inl wh), some (.inl 0), none, none]) rfl rfl rfl rfl ?_
    refine r_const (pc' := 29) rfl rfl ?_
    refine r_istore (pc' := 31) (ls' := [some (.inr (.inr 232)), some (.inl f), some (.inl w), some (.inl wh), some (.inl 0), some (.inl 0), none]) rfl rfl rfl rfl ?_
    refine r_while (α := Int × Int) (fun z' => [some (.inr (.inr 232)), some (.inl f), some (.inl w), some (.inl wh), some (.inl z'.1), some (.inl z'.2), none]) (fun z' => S) (fun z' => (0 ≤ z'.2 ∧ z'.2 ≤ S 233 (22 + f)) ∧ (z'.1 = 0 ∨ z'.1 = 1) ∧ (z'.1 = 1 → S 233 (114 + w) = S 233 (22 + f) ∧ ∀ yy, 0 ≤ yy → yy < z'.2 → fitM S f w wh yy) ∧ (z'.1 = 0 → ¬ fitv S f w wh)) (fun z' => (S 233 (22 + f) - z'.2).toNat) ?_ (0, 0) (show (0 ≤ (0 : Int) ∧ (0 : Int) ≤ S 233 (22 + f)) ∧ ((0 : Int) = 0 ∨ (0 : Int) = 1) ∧ ((0 : Int) = 1 → S 233 (114 + w) = S 233 (22 + f) ∧ ∀ yy, 0 ≤ yy → yy < (0 : Int) → fitM S f w wh yy) ∧ ((0 : Int) = 0 → ¬ fitv S f w wh) from by first | exact ⟨by omega, by omega, fun _ => ⟨by assumption, fun y h1 h2 => absurd h2 (by omega)⟩, fun z => absurd z (by omega)⟩ | exact ⟨by omega, by omega, fun z => absurd z (by omega), fun _ z => absurd z.1 (by assumption)⟩)
    rintro ⟨u, q⟩ hI' ih31
    have hI' : (0 ≤ q ∧ q ≤ S 233 (22 + f)) ∧ (u = 0 ∨ u = 1) ∧ (u = 1 → S 233 (114 + w) = S 233 (22 + f) ∧ ∀ yy, 0 ≤ yy → yy < q → fitM S f w wh yy) ∧ (u = 0 → ¬ fitv S f w wh) := hI'
    obtain ⟨i1, i2, i3, i4⟩ := hI'
    show RS _ _ _ _ [some (.inr (.inr 232)), some (.inl f), some (.inl w), some (.inl wh), some (.inl u), some (.inl q), none] [] S
    refine r_iload (pc' := 33) rfl rfl rfl ?_
    refine r_aload (pc' := 34) rfl rfl rfl ?_
    refine r_getr (pc' := 37) (v := 233) rfl rfl rfl rfl rfl ?_
    refine r_const (pc' := 39) rfl rfl ?_
    refine r_iload (pc' := 40) rfl rfl rfl ?_
    refine r_iadd (pc' := 41) rfl rfl ?_
    refine r_aldv (pc' := 42) (v := (S 233 (22 + f))) 187 rfl rfl rfl (by omega) rfl ?_
    by_cases h14 : q < (S 233 (22 + f))
    · refine r_icmp_ge0 (pc' := 45) rfl rfl (by omega) (by omega) ?_
      refine r_iload (pc' := 47) rfl rfl rfl ?_
      by_cases h15 : u = 0
      · refine r_if_eq1 (pc' := 144) rfl rfl (by omega) (by omega) ?_
        refine r_iload (pc' := 146) rfl rfl rfl ?_
        refine q_zret rfl rfl rfl (by omega) ?_
        rcases i2 with rfl | rfl
        · exact ⟨bi_f (i4 rfl), rfl⟩
        · exact ⟨bi_t ⟨(i3 rfl).1, fun y h1 h2 => (i3 rfl).2 y h1 (by omega)⟩, rfl⟩
      · refine r_if_eq0 (pc' := 50) rfl rfl (by omega) (by omega) ?_
        refine r_aload (pc' := 51) rfl rfl rfl ?_
        refine r_getr (pc' := 54) (v := 233) rfl rfl rfl rfl rfl ?_
        refine r_const (pc' := 56) rfl rfl ?_
        refine r_const (pc' := 58) rfl rfl ?_
        refine r_iload (pc' := 59) rfl rfl rfl ?_
        refine r_imul (pc' := 60) rfl rfl ?_
        refine r_iadd (pc' := 61) rfl rfl ?_
        refine r_iload (pc' := 63) rfl rfl rfl ?_
        refine r_iadd (pc' := 64) rfl rfl ?_
        refine r_aldv (pc' := 65) (v := (S 233 ((122 + (8 * w)) + q))) 187 rfl rfl rfl (by omega) rfl ?_
        have b16 := bda_233 hB ((122 + (8 * w)) + q)
        refine r_istore (pc' := 67) (ls' := [some (.inr (.inr 232)), some (.inl f), some (.inl w), some (.inl wh), some (.inl u), some (.inl q), some (.inl (S 233 ((122 + (8 * w)) + q)))]) rfl rfl rfl rfl ?_
        refine r_aload (pc' := 68) rfl rfl rfl ?_
        refine r_getr (pc' := 71) (v := 236) rfl rfl rfl rfl rfl ?_
        refine r_const (pc' := 72) rfl rfl ?_
        refine r_iload (pc' := 73) rfl rfl rfl ?_
        refine r_iadd (pc' := 74) rfl rfl ?_
        refine r_aldv (pc' := 75) (v := (S 236 (0 + f))) 12 rfl rfl rfl (by omega) rfl ?_
        have b17 := bdc_236_0 hB f
        refine r_iload (pc' := 77) rfl rfl rfl ?_
        by_cases h18 : tb (S 236 (0 + f)) q
        · skip
          refine q_callE (pc' := 80) (w := some (.inl 1)) (S2 := S) (st' := [.inl 1]) rfl rfl rfl (bi_pos h18 (c_X11_has (s := (S 236 (0 + f))) (q := q) (S := S)  (show -2147483648 ≤ (S 236 (0 + f)) ∧ (S 236 (0 + f)) < 2147483648 from by omega) (show 0 ≤ q ∧ q < 32 from by omega))) (by decide) rfl rfl (Nat.le_of_ble_eq_true rfl) (fun q => absurd rfl q) rfl rfl ?_
          refine r_if_eq0 (pc' := 83) rfl rfl (by decide) (by decide) ?_
          refine r_iload (pc' := 85) rfl rfl rfl ?_
          refine r_aload (pc' := 86) rfl rfl rfl ?_
          refine r_getr (pc' := 89) (v := 233) rfl rfl rfl rfl rfl ?_
          refine r_const (pc' := 91) rfl rfl ?_
          refine r_const (pc' := 93) rfl rfl ?_
          refine r_iload (pc' := 94) rfl rfl rfl ?_
          refine r_imul (pc' := 95) rfl rfl ?_
          refine r_iadd (pc' := 96) rfl rfl ?_
          refine r_iload (pc' := 98) rfl rfl rfl ?_
          refine r_iadd (pc' := 99) rfl rfl ?_
          refine r_aldv (pc' := 100) (v := (S 233 ((29 + (8 * f)) + q))) 187 rfl rfl rfl (by omega) rfl ?_
          have b19 := bda_233 hB ((29 + (8 * f)) + q)
          by_cases h20 : (S 233 ((122 + (8 * w)) + q)) = (S 233 ((29 + (8 * f)) + q))
          · refine r_icmp_ne0 (pc' := 103) rfl rfl (by omega) (by omega) ?_
            refine r_const (pc' := 104) rfl rfl ?_
            refine r_goto (pc' := 136) rfl rfl ?_
            refine r_istore (pc' := 138) (ls' := [some (.inr (.inr 232)), some (.inl f), some (.inl w), some (.inl wh), some (.inl 1), some (.inl q), some (.inl (S 233 ((122 + (8 * w)) + q)))]) rfl rfl rfl rfl ?_
            refine r_iinc (pc' := 141) (ls' := [some (.inr (.inr 232)), some (.inl f), some (.inl w), some (.inl wh), some (.inl 1), some (.inl (q + 1)), some (.inl (S 233 ((122 + (8 * w)) + q)))]) rfl rfl rfl rfl rfl ?_
            refine r_goto (pc' := 31) rfl rfl ?_
            refine r_forget [true, true, true, true, true, true, false] rfl ?_
            exact ih31 (1, (q + 1)) (show (0 ≤ (q + 1) ∧ (q + 1) ≤ S 233 (22 + f)) ∧ ((1 : Int) = 0 ∨ (1 : Int) = 1) ∧ ((1 : Int) = 1 → S 233 (114 + w) = S 233 (22 + f) ∧ ∀ yy, 0 ≤ yy → yy < (q + 1) → fitM S f w wh yy) ∧ ((1 : Int) = 0 → ¬ fitv S f w wh) from by exact ⟨by omega, by omega, fun _ => ⟨(i3 (by omega)).1, fun y h1 h2 => by
          by_cases hy : y < q
          · exact (i3 (by omega)).2 y h1 hy
          · obtain rfl : y = q := by omega
            exact ⟨fun _ => by omega, fun z => absurd h18 z⟩⟩, fun z => absurd z (by omega)⟩) (show (S 233 (22 + f) - (q + 1)).toNat < (S 233 (22 + f) - q).toNat from by omega)
          · refine r_icmp_ne1 (pc' := 107) rfl rfl (by omega) (by omega) ?_
            refine r_const (pc' := 108) rfl rfl ?_
            refine r_goto (pc' := 136) rfl rfl ?_
            refine r_istore (pc' := 138) (ls' := [some (.inr (.inr 232)), some (.inl f), some (.inl w), some (.inl wh), some (.inl 0), some (.inl q), some (.inl (S 233 ((122 + (8 * w)) + q)))]) rfl rfl rfl rfl ?_
            refine r_iinc (pc' := 141) (ls' := [some (.inr (.inr 232)), some (.inl f), some (.inl w), some (.inl wh), some (.inl 0), some (.inl (q + 1)), some (.inl (S 233 ((122 + (8 * w)) + q)))]) rfl rfl rfl rfl rfl ?_
            refine r_goto (pc' := 31) rfl rfl ?_
            refine r_forget [true, true, true, true, true, true, false] rfl ?_
            exact ih31 (0, (q + 1)) (show (0 ≤ (q + 1) ∧ (q + 1) ≤ S 233 (22 + f)) ∧ ((0 : Int) = 0 ∨ (0 : Int) = 1) ∧ ((0 : Int) = 1 → S 233 (114 + w) = S 233 (22 + f) ∧ ∀ yy, 0 ≤ yy → yy < (q + 1) → fitM S f w wh yy) ∧ ((0 : Int) = 0 → ¬ fitv S f w wh) from by exact ⟨by omega, by omega, fun z => absurd z (by omega), fun _ z => absurd ((z.2 q (by omega) (by omega)).1 h18) (by omega)⟩) (show (S 233 (22 + f) - (q + 1)).toNat < (S 233 (22 + f) - q).toNat from by omega)
        · skip
          refine q_callE (pc' := 80) (w := some (.inl 0)) (S2 := S) (st' := [.inl 0]) rfl rfl rfl (bi_neg h18 (c_X11_has (s := (S 236 (0 + f))) (q := q) (S := S)  (show -2147483648 ≤ (S 236 (0 + f)) ∧ (S 236 (0 + f)) < 2147483648 from by omega) (show 0 ≤ q ∧ q < 32 from by omega))) (by decide) rfl rfl (Nat.le_of_ble_eq_true rfl) (fun q => absurd rfl q) rfl rfl ?_
          refine r_if_eq1 (pc' := 111) rfl rfl (by decide) (by decide) ?_
          refine r_iload (pc' := 112) rfl rfl rfl ?_
          by_cases h21 : wh = 0
          · refine r_if_eq1 (pc' := 131) rfl rfl (by omega) (by omega) ?_
            refine r_const (pc' := 132) rfl rfl ?_
            refine r_goto (pc' := 136) rfl rfl ?_
            refine r_istore (pc' := 138) (ls' := [some (.inr (.inr 232)), some (.inl f), some (.inl w), some (.inl wh), some (.inl 1), some (.inl q), some (.inl (S 233 ((122 + (8 * w)) + q)))]) rfl rfl rfl rfl ?_
            refine r_iinc (pc' := 141) (ls' := [some (.inr (.inr 232)), some (.inl f), some (.inl w), some (.inl wh), some (.inl 1), some (.inl (q + 1)), some (.inl (S 233 ((122 + (8 * w)) + q)))]) rfl rfl rfl rfl rfl ?_
            refine r_goto (pc' := 31) rfl rfl ?_
            refine r_forget [true, true, true, true, true, true, false] rfl ?_
            exact ih31 (1, (q + 1)) (show (0 ≤ (q + 1) ∧ (q + 1) ≤ S 233 (22 + f)) ∧ ((1 : Int) = 0 ∨ (1 : Int) = 1) ∧ ((1 : Int) = 1 → S 233 (114 + w) = S 233 (22 + f) ∧ ∀ yy, 0 ≤ yy → yy < (q + 1) → fitM S f w wh yy) ∧ ((1 : Int) = 0 → ¬ fitv S f w wh) from by exact ⟨by omega, by omega, fun _ => ⟨(i3 (by omega)).1, fun y h1 h2 => by
          by_cases hy : y < q
          · exact (i3 (by omega)).2 y h1 hy
          · obtain rfl : y = q := by omega
            exact ⟨fun z => absurd z h18, fun _ => Or.inl (by omega)⟩⟩, fun z => absurd z (by omega)⟩) (show (S 233 (22 + f) - (q + 1)).toNat < (S 233 (22 + f) - q).toNat from by omega)
          · refine r_if_eq0 (pc' := 115) rfl rfl (by omega) (by omega) ?_
            refine r_aload (pc' := 116) rfl rfl rfl ?_
            refine r_getr (pc' := 119) (v := 233) rfl rfl rfl rfl rfl ?_
            refine r_const (pc' := 120) rfl rfl ?_
            refine r_iload (pc' := 121) rfl rfl rfl ?_
            refine r_iadd (pc' := 122) rfl rfl ?_
            refine r_aldv (pc' := 123) (v := (S 233 (1 + f))) 187 rfl rfl rfl (by omega) rfl ?_
            have b22 := bdc_233_1 hB f
            refine r_iload (pc' := 125) rfl rfl rfl ?_
            by_cases h23 : btake (S 233 (1 + f)) (S 233 ((122 + (8 * w)) + q))
            · skip
              refine q_callE (pc' := 128) (w := some (.inl 1)) (S2 := S) (st' := [.inl 1]) rfl rfl rfl (bi_pos h23 (c_X11_birdsTake (k := (S 233 (1 + f))) (c := (S 233 ((122 + (8 * w)) + q))) (S := S)  (show -2147483648 ≤ (S 233 (1 + f)) ∧ (S 233 (1 + f)) < 2147483648 from by omega) (show -2147483648 ≤ (S 233 ((122 + (8 * w)) + q)) ∧ (S 233 ((122 + (8 * w)) + q)) < 2147483648 from by omega))) (by decide) rfl rfl (Nat.le_of_ble_eq_true rfl) (fun q => absurd rfl q) rfl rfl ?_
              refine r_if_eq0 (pc' := 131) rfl rfl (by decide) (by decide) ?_
              refine r_const (pc' := 132) rfl rfl ?_
              refine r_goto (pc' := 136) rfl rfl ?_
              refine r_istore (pc' := 138) (ls' := [some (.inr (.inr 232)), some (.inl f), some (.inl w), some (.inl wh), some (.inl 1), some (.inl q), some (.inl (S 233 ((122 + (8 * w)) + q)))]) rfl rfl rfl rfl ?_
              refine r_iinc (pc' := 141) (ls' := [some (.inr (.inr 232)), some (.inl f), some (.inl w), some (.inl wh), some (.inl 1), some (.inl (q + 1)), some (.inl (S 233 ((122 + (8 * w)) + q)))]) rfl rfl rfl rfl rfl ?_
              refine r_goto (pc' := 31) rfl rfl ?_
              refine r_forget [true, true, true, true, true, true, false] rfl ?_
              exact ih31 (1, (q + 1)) (show (0 ≤ (q + 1) ∧ (q + 1) ≤ S 233 (22 + f)) ∧ ((1 : Int) = 0 ∨ (1 : Int) = 1) ∧ ((1 : Int) = 1 → S 233 (114 + w) = S 233 (22 + f) ∧ ∀ yy, 0 ≤ yy → yy < (q + 1) → fitM S f w wh yy) ∧ ((1 : Int) = 0 → ¬ fitv S f w wh) from by exact ⟨by omega, by omega, fun _ => ⟨(i3 (by omega)).1, fun y h1 h2 => by
          by_cases hy : y < q
          · exact (i3 (by omega)).2 y h1 hy
          · obtain rfl : y = q := by omega
            exact ⟨fun z => absurd z h18, fun _ => Or.inr h23⟩⟩, fun z => absurd z (by omega)⟩) (show (S 233 (22 + f) - (q + 1)).toNat < (S 233 (22 + f) - q).toNat from by omega)
            · skip
              refine q_callE (pc' := 128) (w := some (.inl 0)) (S2 := S) (st' := [.inl 0]) rfl rfl rfl (bi_neg h23 (c_X11_birdsTake (k := (S 233 (1 + f))) (c := (S 233 ((122 + (8 * w)) + q))) (S := S)  (show -2147483648 ≤ (S 233 (1 + f)) ∧ (S 233 (1 + f)) < 2147483648 from by omega) (show -2147483648 ≤ (S 233 ((122 + (8 * w)) + q)) ∧ (S 233 ((122 + (8 * w)) + q)) < 2147483648 from by omega))) (by decide) rfl rfl (Nat.le_of_ble_eq_true rfl) (fun q => absurd rfl q) rfl rfl ?_
              refine r_if_eq1 (pc' := 135) rfl rfl (by decide) (by decide) ?_
              refine r_const (pc' := 136) rfl rfl ?_
              refine r_istore (pc' := 138) (ls' := [some (.inr (.inr 232)), some (.inl f), some (.inl w), some (.inl wh), some (.inl 0), some (.inl q), some (.inl (S 233 ((122 + (8 * w)) + q)))]) rfl rfl rfl rfl ?_
              refine r_iinc (pc' := 141) (ls' := [some (.inr (.inr 232)), some (.inl f), some (.inl w), some (.inl wh), some (.inl 0), some (.inl (q + 1)), some (.inl (S 233 ((122 + (8 * w)) + q)))]) rfl rfl rfl rfl rfl ?_
              refine r_goto (pc' := 31) rfl rfl ?_
              refine r_forget [true, true, true, true, true, true, false] rfl ?_
              exact ih31 (0, (q + 1)) (show (0 ≤ (q + 1) ∧ (q + 1) ≤ S 233 (22 + f)) ∧ ((0 : Int) = 0 ∨ (0 : Int) = 1) ∧ ((0 : Int) = 1 → S 233 (114 + w) = S 233 (22 + f) ∧ ∀ yy, 0 ≤ yy → yy < (q + 1) → fitM S f w wh yy) ∧ ((0 : Int) = 0 → ¬ fitv S f w wh) from by exact ⟨by omega, by omega, fun z => absurd z (by omega), fun _ z => ((z.2 q (by omega) (by omega)).2 h18).elim (by omega) h23⟩) (show (S 233 (22 + f) - (q + 1)).toNat < (S 233 (22 + f) - q).toNat from by omega)
    · refine r_icmp_ge1 (pc' := 144) rfl rfl (by omega) (by omega) ?_
      refine r_iload (pc' := 146) rfl rfl rfl ?_
      refine q_zret rfl rfl rfl (by omega) ?_
      rcases i2 with rfl | rfl
      · exact ⟨bi_f (i4 rfl), rfl⟩
      · exact ⟨bi_t ⟨(i3 rfl).1, fun y h1 h2 => (i3 rfl).2 y h1 (by omega)⟩, rfl⟩
theorem c_X11_couldAll {f : Int} {wh : Int} {S : rS} (hB : Bd S) (h_f : 0 ≤ f ∧ f < 7) (h_wh : -2147483648 ≤ wh ∧ wh < 2147483648) : CS 3 69 [.inr (.inr 232), .inl f, .inl wh] S (fun r' S' => r' = some (.inl (bs (fun kk => fitv S f kk wh) (S 233 113))) ∧ S' = S) := by
  refine RS.beg (ls := [some (.inr (.inr 232)), some (.inl f), some (.inl wh), none, none]) rfl rfl rfl rfl rfl ?_
  have n10 : 0 ≤ S 233 113 ∧ S 233 113 ≤ 8 := hB 233 113
  refine r_const (pc' := 1) rfl rfl ?_
  refine r_istore (pc' := 2) (ls' := [some (.inr (.inr 232)), some (.inl f), some (.inl wh), some (.inl 0), none]) rfl rfl rfl rfl ?_
  refine r_const (pc' := 3) rfl rfl ?_
  refine r_istore (pc' := 5) (ls' := [some (.inr (.inr 232)), some (.inl f), some (.inl wh), some (.inl 0), some (.inl 0)]) rfl rfl rfl rfl ?_
  refine r_while (α := Int × Int) (fun z' => [some (.inr (.inr 232)), some (.inl f), some (.inl wh), some (.inl z'.2), some (.inl z'.1)]) (fun z' => S) (fun z' => (0 ≤ z'.1 ∧ z'.1 ≤ S 233 113) ∧ (0 ≤ z'.2 ∧ z'.2 < 256) ∧ (z'.2 = bs (fun kk => fitv S f kk wh) z'.1)) (fun z' => (S 233 113 - z'.1).toNat) ?_ (0, 0) (show (0 ≤ (0 : Int) ∧ (0 : Int) ≤ S 233 113) ∧ (0 ≤ (0 : Int) ∧ (0 : Int) < 256) ∧ ((0 : Int) = bs (fun kk => fitv S f kk wh) (0 : Int)) from by exact ⟨by omega, by omega, rfl⟩)
  rintro ⟨w, s⟩ hI' ih5
  have hI' : (0 ≤ w ∧ w ≤ S 233 113) ∧ (0 ≤ s ∧ s < 256) ∧ (s = bs (fun kk => fitv S f kk wh) w) := hI'
  obtain ⟨i1, i3, i2⟩ := hI'
  show RS _ _ _ _ [some (.inr (.inr 232)), some (.inl f), some (.inl wh), some (.inl s), some (.inl w)] [] S
  have b1 : 0 ≤ S 233 113 ∧ S 233 113 ≤ 8 := hB 233 113
  refine r_iload (pc' := 7) rfl rfl rfl ?_
  refine r_aload (pc' := 8) rfl rfl rfl ?_
  refine r_getr (pc' := 11) (v := 233) rfl rfl rfl rfl rfl ?_
  refine r_const (pc' := 13) rfl rfl ?_
  refine r_aldv (pc' := 14) (v := (S 233 113)) 187 rfl rfl rfl (by omega) rfl ?_
  by_cases h2 : w < (S 233 113)
  · refine r_icmp_ge0 (pc' := 17) rfl rfl (by omega) (by omega) ?_
    refine r_iload (pc' := 18) rfl rfl rfl ?_
    refine r_aload (pc' := 19) rfl rfl rfl ?_
    refine r_iload (pc' := 20) rfl rfl rfl ?_
    refine r_iload (pc' := 22) rfl rfl rfl ?_
    refine r_iload (pc' := 23) rfl rfl rfl ?_
    by_cases h3 : fitv S f w wh
    · skip
      refine q_callE (pc' := 26) (w := some (.inl 1)) (S2 := S) (st' := [.inl 1, .inl s]) rfl rfl rfl (bi_pos h3 (c_X11_couldBe (f := f) (w := w) (wh := wh) (S := S) hB (show 0 ≤ f ∧ f < 7 from by omega) (show 0 ≤ w ∧ w < 8 from by omega) (show -2147483648 ≤ wh ∧ wh < 2147483648 from by omega))) (by decide) rfl rfl (Nat.le_of_ble_eq_true rfl) (fun _ _ => ⟨_, _, rfl, rfl⟩) rfl rfl ?_
      refine r_if_eq0 (pc' := 29) rfl rfl (by decide) (by decide) ?_
      refine r_const (pc' := 30) rfl rfl ?_
      refine r_iload (pc' := 32) rfl rfl rfl ?_
      refine r_ishl (pc' := 33) rfl rfl ?_
      have b4 := mx_shl_r 1 w
      have e5 := shl_u (k := w) 8 (by omega) (by omega)
      refine r_goto (pc' := 37) rfl rfl ?_
      refine r_ior (pc' := 38) rfl rfl ?_
      have b6 := mx_or_r s (mx_shl 1 w)
      have e7 := or_u (a := s) (b := mx_shl 1 w) 8 (by omega) (by omega) (by omega) (by omega) (by omega)
      refine r_istore (pc' := 39) (ls' := [some (.inr (.inr 232)), some (.inl f), some (.inl wh), some (.inl (mx_or s (mx_shl 1 w))), some (.inl w)]) rfl rfl rfl rfl ?_
      refine r_iinc (pc' := 42) (ls' := [some (.inr (.inr 232)), some (.inl f), some (.inl wh), some (.inl (mx_or s (mx_shl 1 w))), some (.inl (w + 1))]) rfl rfl rfl rfl rfl ?_
      refine r_goto (pc' := 5) rfl rfl ?_
      exact ih5 ((w + 1), (mx_or s (mx_shl 1 w))) (show (0 ≤ (w + 1) ∧ (w + 1) ≤ S 233 113) ∧ (0 ≤ (mx_or s (mx_shl 1 w)) ∧ (mx_or s (mx_shl 1 w)) < 256) ∧ ((mx_or s (mx_shl 1 w)) = bs (fun kk => fitv S f kk wh) (w + 1)) from by exact ⟨by omega, by omega, by rw [i2]; exact (bs_t (p := fun kk => fitv S f kk wh) (k := w) (by omega) h3).symm⟩) (show (S 233 113 - (w + 1)).toNat < (S 233 113 - w).toNat from by omega)
    · skip
      refine q_callE (pc' := 26) (w := some (.inl 0)) (S2 := S) (st' := [.inl 0, .inl s]) rfl rfl rfl (bi_neg h3 (c_X11_couldBe (f := f) (w := w) (wh := wh) (S := S) hB (show 0 ≤ f ∧ f < 7 from by omega) (show 0 ≤ w ∧ w < 8 from by omega) (show -2147483648 ≤ wh ∧ wh < 2147483648 from by omega))) (by decide) rfl rfl (Nat.le_of_ble_eq_true rfl) (fun _ _ => ⟨_, _, rfl, rfl⟩) rfl rfl ?_
      refine r_if_eq1 (pc' := 36) rfl rfl (by decide) (by decide) ?_
      refine r_const (pc' := 37) rfl rfl ?_
      refine r_ior (pc' := 38) rfl rfl ?_
      have b8 := mx_or_r s 0
      have e9 := mx_or0 (a := s) (by omega)
      refine r_istore (pc' := 39) (ls' := [some (.inr (.inr 232)), some (.inl f), some (.inl wh), some (.inl (mx_or s 0)), some (.inl w)]) rfl rfl rfl rfl ?_
      refine r_iinc (pc' := 42) (ls' := [some (.inr (.inr 232)), some (.inl f), some (.inl wh), some (.inl (mx_or s 0)), some (.inl (w + 1))]) rfl rfl rfl rfl rfl ?_
      refine r_goto (pc' := 5) rfl rfl ?_
      exact ih5 ((w + 1), (mx_or s 0)) (show (0 ≤ (w + 1) ∧ (w + 1) ≤ S 233 113) ∧ (0 ≤ (mx_or s 0) ∧ (mx_or s 0) < 256) ∧ ((mx_or s 0) = bs (fun kk => fitv S f kk wh) (w + 1)) from by exact ⟨by omega, by omega, by rw [mx_or0 (by omega), i2]; exact (bs_f (p := fun kk => fitv S f kk wh) (k := w) (by omega) h3).symm⟩) (show (S 233 113 - (w + 1)).toNat < (S 233 113 - w).toNat from by omega)
  · refine r_icmp_ge1 (pc' := 45) rfl rfl (by omega) (by omega) ?_
    refine r_iload (pc' := 46) rfl rfl rfl ?_
    refine q_iret rfl rfl rfl ?_
    obtain rfl : w = S 233 113 := by omega
    exact ⟨by rw [i2], rfl⟩
noncomputable def v_X11_could (S : rS) (f : Int) (k : Int) : Int := if 0 ≤ f ∧ f ≤ S 233 0 - 1 then if 0 ≤ k ∧ k ≤ 1 then bs (fun kk => fitv S f kk k) (S 233 113) else (-3) else (-2)
theorem c_X11_could {f : Int} {k : Int} {S : rS} (hB : Bd S) (h_f : -2147483648 ≤ f ∧ f < 2147483648) (h_k : -2147483648 ≤ k ∧ k < 2147483648) : CS 4 68 [.inr (.inr 232), .inl f, .inl k] S (fun r' S' => r' = some (.inl (v_X11_could S f k)) ∧ S' = S) := by
  refine RS.beg (ls := [some (.inr (.inr 232)), some (.inl f), some (.inl k)]) rfl rfl rfl rfl rfl ?_
  have n0 : 0 ≤ S 233 0 ∧ S 233 0 ≤ 7 := hB 233 0
  refine r_aload (pc' := 1) rfl rfl rfl ?_
  refine r_iload (pc' := 2) rfl rfl rfl ?_
  have b1 : 0 ≤ S 233 0 ∧ S 233 0 ≤ 7 := hB 233 0
  by_cases h2 : 0 ≤ f ∧ f ≤ S 233 0 - 1
  · skip
    refine q_callE (pc' := 5) (w := some (.inl 1)) (S2 := S) (st' := [.inl 1]) rfl rfl rfl (bi_pos h2 (c_X11_isField (f := f) (S := S) hB (show -2147483648 ≤ f ∧ f < 2147483648 from by omega))) (by decide) rfl rfl (Nat.le_of_ble_eq_true rfl) (fun _ _ => ⟨_, _, rfl, rfl⟩) rfl rfl ?_
    refine r_if_ne1 (pc' := 11) rfl rfl (by decide) (by decide) ?_
    refine r_iload (pc' := 12) rfl rfl rfl ?_
    by_cases h3 : 0 ≤ k ∧ k ≤ 1
    · skip
      refine q_callE (pc' := 15) (w := some (.inl 1)) (S2 := S) (st' := [.inl 1]) rfl rfl rfl (bi_pos h3 (c_X11_isTwo (k := k) (S := S)  (show -2147483648 ≤ k ∧ k < 2147483648 from by omega))) (by decide) rfl rfl (Nat.le_of_ble_eq_true rfl) (fun q => absurd rfl q) rfl rfl ?_
      refine r_if_eq0 (pc' := 18) rfl rfl (by decide) (by decide) ?_
      refine r_aload (pc' := 19) rfl rfl rfl ?_
      refine r_iload (pc' := 20) rfl rfl rfl ?_
      refine r_iload (pc' := 21) rfl rfl rfl ?_
      have b4 : 0 ≤ S 233 113 ∧ S 233 113 ≤ 8 := hB 233 113
      refine q_callE (pc' := 24) (w := some (.inl (bs (fun kk => fitv S f kk k) (S 233 113)))) (S2 := S) (st' := [.inl (bs (fun kk => fitv S f kk k) (S 233 113))]) rfl rfl rfl (c_X11_couldAll (f := f) (wh := k) (S := S) hB (show 0 ≤ f ∧ f < 7 from by omega) (show -2147483648 ≤ k ∧ k < 2147483648 from by omega)) (by decide) rfl rfl (Nat.le_of_ble_eq_true rfl) (fun _ _ => ⟨_, _, rfl, rfl⟩) rfl rfl ?_
      have b5 : 0 ≤ (bs (fun kk => fitv S f kk k) (S 233 113)) ∧ (bs (fun kk => fitv S f kk k) (S 233 113)) < 256 := bs8 (by have q : 0 ≤ S 233 113 ∧ S 233 113 ≤ 8 := hB 233 113; omega)
      refine r_goto (pc' := 29) rfl rfl ?_
      refine q_iret rfl rfl rfl ?_
      exact ⟨by unfold v_X11_could; rw [if_pos h2, if_pos h3], rfl⟩
    · skip
      refine q_callE (pc' := 15) (w := some (.inl 0)) (S2 := S) (st' := [.inl 0]) rfl rfl rfl (bi_neg h3 (c_X11_isTwo (k := k) (S := S)  (show -2147483648 ≤ k ∧ k < 2147483648 from by omega))) (by decide) rfl rfl (Nat.le_of_ble_eq_true rfl) (fun q => absurd rfl q) rfl rfl ?_
      refine r_if_eq1 (pc' := 27) rfl rfl (by decide) (by decide) ?_
      refine r_const (pc' := 29) rfl rfl ?_
      refine q_iret rfl rfl rfl ?_
      exact ⟨by unfold v_X11_could; rw [if_pos h2, if_neg h3], rfl⟩
  · skip
    refine q_callE (pc' := 5) (w := some (.inl 0)) (S2 := S) (st' := [.inl 0]) rfl rfl rfl (bi_neg h2 (c_X11_isField (f := f) (S := S) hB (show -2147483648 ≤ f ∧ f < 2147483648 from by omega))) (by decide) rfl rfl (Nat.le_of_ble_eq_true rfl) (fun _ _ => ⟨_, _, rfl, rfl⟩) rfl rfl ?_
    refine r_if_ne0 (pc' := 8) rfl rfl (by decide) (by decide) ?_
    refine r_const (pc' := 10) rfl rfl ?_
    refine q_iret rfl rfl rfl ?_
    exact ⟨by unfold v_X11_could; rw [if_neg h2], rfl⟩
noncomputable def alM (S : rS) (g q : Int) : Int := mxs (fun kk => sm (fun jj => bi (tb g kk ∧ tb g jj ∧ S 233 (122 + 8 * kk + q) = S 233 (122 + 8 * jj + q))) (S 233 113)) (S 233 113)
theorem alM_r {S : rS} (hB : Bd S) (g q : Int) : 0 ≤ alM S g q ∧ alM S g q ≤ 8 := by
  have b0 : 0 ≤ S 233 113 ∧ S 233 113 ≤ 8 := hB 233 113
  obtain ⟨m, hm⟩ := Int.eq_ofNat_of_zero_le b0.1
  unfold alM
  refine ⟨mxs_n b0.1, ?_⟩
  have q := fun k => sm_bi (p := fun jj => tb g k ∧ tb g jj ∧ S 233 (122 + 8 * k + q) = S 233 (122 + 8 * jj + q)) b0.1
  rw [hm] at b0 q ⊢
  exact mxs_u (by omega) m (fun k h0 h1 => by have := q k; omega)
theorem c_X11_alike {g : Int} {q : Int} {S : rS} (hB : Bd S) (h_g : 0 ≤ g ∧ g < 256) (h_q : 0 ≤ q ∧ q < 8) : CS 2 55 [.inr (.inr 232), .inl g, .inl q] S (fun r' S' => r' = some (.inl (alM S g q)) ∧ S' = S) := by
  refine RS.beg (ls := [some (.inr (.inr 232)), some (.inl g), some (.inl q), none, none, none, none]) rfl rfl rfl rfl rfl ?_
  have n10 : 0 ≤ S 233 113 ∧ S 233 113 ≤ 8 := hB 233 113
  refine r_const (pc' := 1) rfl rfl ?_
  refine r_istore (pc' := 2) (ls' := [some (.inr (.inr 232)), some (.inl g), some (.inl q), some (.inl 0), none, none, none]) rfl rfl rfl rfl ?_
  refine r_const (pc' := 3) rfl rfl ?_
  refine r_istore (pc' := 5) (ls' := [some (.inr (.inr 232)), some (.inl g), some (.inl q), some (.inl 0), some (.inl 0), none, none]) rfl rfl rfl rfl ?_
  refine r_while (α := Int × Int) (fun z' => [some (.inr (.inr 232)), some (.inl g), some (.inl q), some (.inl z'.1), some (.inl z'.2), none, none]) (fun z' => S) (fun z' => (0 ≤ z'.2 ∧ z'.2 ≤ S 233 113) ∧ (0 ≤ z'.1 ∧ z'.1 ≤ 8) ∧ (z'.1 = mxs (fun kk => sm (fun jj => bi (tb g kk ∧ tb g jj ∧ S 233 (122 + 8 * kk + q) = S 233 (122 + 8 * jj + q))) (S 233 113)) z'.2)) (fun z' => (S 233 113 - z'.2).toNat) ?_ (0, 0) (show (0 ≤ (0 : Int) ∧ (0 : Int) ≤ S 233 113) ∧ (0 ≤ (0 : Int) ∧ (0 : Int) ≤ 8) ∧ ((0 : Int) = mxs (fun kk => sm (fun jj => bi (tb g kk ∧ tb g jj ∧ S 233 (122 + 8 * kk + q) = S 233 (122 + 8 * jj + q))) (S 233 113)) (0 : Int)) from by exact ⟨by omega, by omega, rfl⟩)
  rintro ⟨z, w⟩ hI' ih5
  have hI' : (0 ≤ w ∧ w ≤ S 233 113) ∧ (0 ≤ z ∧ z ≤ 8) ∧ (z = mxs (fun kk => sm (fun jj => bi (tb g kk ∧ tb g jj ∧ S 233 (122 + 8 * kk + q) = S 233 (122 + 8 * jj + q))) (S 233 113)) w) := hI'
  obtain ⟨i1, i3, i2⟩ := hI'
  show RS _ _ _ _ [some (.inr (.inr 232)), some (.inl g), some (.inl q), some (.inl z), some (.inl w), none, none] [] S
  have b1 : 0 ≤ S 233 113 ∧ S 233 113 ≤ 8 := hB 233 113
  refine r_iload (pc' := 7) rfl rfl rfl ?_
  refine r_aload (pc' := 8) rfl rfl rfl ?_
  refine r_getr (pc' := 11) (v := 233) rfl rfl rfl rfl rfl ?_
  refine r_const (pc' := 13) rfl rfl ?_
  refine r_aldv (pc' := 14) (v := (S 233 113)) 187 rfl rfl rfl (by omega) rfl ?_
  by_cases h2 : w < (S 233 113)
  · refine r_icmp_ge0 (pc' := 17) rfl rfl (by omega) (by omega) ?_
    refine r_const (pc' := 18) rfl rfl ?_
    refine r_istore (pc' := 20) (ls' := [some (.inr (.inr 232)), some (.inl g), some (.inl q), some (.inl z), some (.inl w), some (.inl 0), none]) rfl rfl rfl rfl ?_
    refine r_const (pc' := 21) rfl rfl ?_
    refine r_istore (pc' := 23) (ls' := [some (.inr (.inr 232)), some (.inl g), some (.inl q), some (.inl z), some (.inl w), some (.inl 0), some (.inl 0)]) rfl rfl rfl rfl ?_
    refine r_while (α := Int × Int) (fun z' => [some (.inr (.inr 232)), some (.inl g), some (.inl q), some (.inl z), some (.inl w), some (.inl z'.1), some (.inl z'.2)]) (fun z' => S) (fun z' => (0 ≤ z'.2 ∧ z'.2 ≤ S 233 113) ∧ (0 ≤ z'.1 ∧ z'.1 ≤ z'.2) ∧ (z'.1 = sm (fun jj => bi (tb g w ∧ tb g jj ∧ S 233 (122 + 8 * w + q) = S 233 (122 + 8 * jj + q))) z'.2)) (fun z' => (S 233 113 - z'.2).toNat) ?_ (0, 0) (show (0 ≤ (0 : Int) ∧ (0 : Int) ≤ S 233 113) ∧ (0 ≤ (0 : Int) ∧ (0 : Int) ≤ (0 : Int)) ∧ ((0 : Int) = sm (fun jj => bi (tb g w ∧ tb g jj ∧ S 233 (122 + 8 * w + q) = S 233 (122 + 8 * jj + q))) (0 : Int)) from by exact ⟨by omega, by omega, rfl⟩)
    rintro ⟨m, v⟩ hI' ih23
    have hI' : (0 ≤ v ∧ v ≤ S 233 113) ∧ (0 ≤ m ∧ m ≤ v) ∧ (m = sm (fun jj => bi (tb g w ∧ tb g jj ∧ S 233 (122 + 8 * w + q) = S 233 (122 + 8 * jj + q))) v) := hI'
    obtain ⟨i5, i6, i7⟩ := hI'
    show RS _ _ _ _ [some (.inr (.inr 232)), some (.inl g), some (.inl q), some (.inl z), some (.inl w), some (.inl m), some (.inl v)] [] S
    have b3 := bdc_233_122 hB (8 * w + q)
    refine r_iload (pc' := 25) rfl rfl rfl ?_
    refine r_aload (pc' := 26) rfl rfl rfl ?_
    refine r_getr (pc' := 29) (v := 233) rfl rfl rfl rfl rfl ?_
    refine r_const (pc' := 31) rfl rfl ?_
    refine r_aldv (pc' := 32) (v := (S 233 113)) 187 rfl rfl rfl (by omega) rfl ?_
    by_cases h4 : v < (S 233 113)
    · refine r_icmp_ge0 (pc' := 35) rfl rfl (by omega) (by omega) ?_
      refine r_iload (pc' := 37) rfl rfl rfl ?_
      refine r_iload (pc' := 38) rfl rfl rfl ?_
      refine r_iload (pc' := 40) rfl rfl rfl ?_
      by_cases h5 : tb g w
      · skip
        refine q_callE (pc' := 43) (w := some (.inl 1)) (S2 := S) (st' := [.inl 1, .inl m]) rfl rfl rfl (bi_pos h5 (c_X11_has (s := g) (q := w) (S := S)  (show -2147483648 ≤ g ∧ g < 2147483648 from by omega) (show 0 ≤ w ∧ w < 32 from by omega))) (by decide) rfl rfl (Nat.le_of_ble_eq_true rfl) (fun q => absurd rfl q) rfl rfl ?_
        refine r_if_eq0 (pc' := 46) rfl rfl (by decide) (by decide) ?_
        refine r_iload (pc' := 47) rfl rfl rfl ?_
        refine r_iload (pc' := 49) rfl rfl rfl ?_
        by_cases h6 : tb g v
        · skip
          refine q_callE (pc' := 52) (w := some (.inl 1)) (S2 := S) (st' := [.inl 1, .inl m]) rfl rfl rfl (bi_pos h6 (c_X11_has (s := g) (q := v) (S := S)  (show -2147483648 ≤ g ∧ g < 2147483648 from by omega) (show 0 ≤ v ∧ v < 32 from by omega))) (by decide) rfl rfl (Nat.le_of_ble_eq_true rfl) (fun q => absurd rfl q) rfl rfl ?_
          refine r_if_eq0 (pc' := 55) rfl rfl (by decide) (by decide) ?_
          refine r_aload (pc' := 56) rfl rfl rfl ?_
          refine r_getr (pc' := 59) (v := 233) rfl rfl rfl rfl rfl ?_
          refine r_const (pc' := 61) rfl rfl ?_
          refine r_const (pc' := 63) rfl rfl ?_
          refine r_iload (pc' := 65) rfl rfl rfl ?_
          refine r_imul (pc' := 66) rfl rfl ?_
          refine r_iadd (pc' := 67) rfl rfl ?_
          refine r_iload (pc' := 68) rfl rfl rfl ?_
          refine r_iadd (pc' := 69) rfl rfl ?_
          refine r_aldv (pc' := 70) (v := (S 233 ((122 + (8 * w)) + q))) 187 rfl rfl rfl (by omega) rfl ?_
          have b7 := bda_233 hB ((122 + (8 * w)) + q)
          refine r_aload (pc' := 71) rfl rfl rfl ?_
          refine r_getr (pc' := 74) (v := 233) rfl rfl rfl rfl rfl ?_
          refine r_const (pc' := 76) rfl rfl ?_
          refine r_const (pc' := 78) rfl rfl ?_
          refine r_iload (pc' := 80) rfl rfl rfl ?_
          refine r_imul (pc' := 81) rfl rfl ?_
          refine r_iadd (pc' := 82) rfl rfl ?_
          refine r_iload (pc' := 83) rfl rfl rfl ?_
          refine r_iadd (pc' := 84) rfl rfl ?_
          refine r_aldv (pc' := 85) (v := (S 233 ((122 + (8 * v)) + q))) 187 rfl rfl rfl (by omega) rfl ?_
          have b8 := bda_233 hB ((122 + (8 * v)) + q)
          by_cases h9 : (S 233 ((122 + (8 * w)) + q)) = (S 233 ((122 + (8 * v)) + q))
          · refine r_icmp_ne0 (pc' := 88) rfl rfl (by omega) (by omega) ?_
            refine r_const (pc' := 89) rfl rfl ?_
            refine r_goto (pc' := 93) rfl rfl ?_
            refine r_iadd (pc' := 94) rfl rfl ?_
            refine r_istore (pc' := 96) (ls' := [some (.inr (.inr 232)), some (.inl g), some (.inl q), some (.inl z), some (.inl w), some (.inl (m + 1)), some (.inl v)]) rfl rfl rfl rfl ?_
            refine r_iinc (pc' := 99) (ls' := [some (.inr (.inr 232)), some (.inl g), some (.inl q), some (.inl z), some (.inl w), some (.inl (m + 1)), some (.inl (v + 1))]) rfl rfl rfl rfl rfl ?_
            refine r_goto (pc' := 23) rfl rfl ?_
            exact ih23 ((m + 1), (v + 1)) (show (0 ≤ (v + 1) ∧ (v + 1) ≤ S 233 113) ∧ (0 ≤ (m + 1) ∧ (m + 1) ≤ (v + 1)) ∧ ((m + 1) = sm (fun jj => bi (tb g w ∧ tb g jj ∧ S 233 (122 + 8 * w + q) = S 233 (122 + 8 * jj + q))) (v + 1)) from by exact ⟨by omega, by omega, by rw [sm_s (by omega), ← i7, bi_1 ⟨h5, h6, by omega⟩]⟩) (show (S 233 113 - (v + 1)).toNat < (S 233 113 - v).toNat from by omega)
          · refine r_icmp_ne1 (pc' := 92) rfl rfl (by omega) (by omega) ?_
            refine r_const (pc' := 93) rfl rfl ?_
            refine r_iadd (pc' := 94) rfl rfl ?_
            refine r_istore (pc' := 96) (ls' := [some (.inr (.inr 232)), some (.inl g), some (.inl q), some (.inl z), some (.inl w), some (.inl (m + 0)), some (.inl v)]) rfl rfl rfl rfl ?_
            refine r_iinc (pc' := 99) (ls' := [some (.inr (.inr 232)), some (.inl g), some (.inl q), some (.inl z), some (.inl w), some (.inl (m + 0)), some (.inl (v + 1))]) rfl rfl rfl rfl rfl ?_
            refine r_goto (pc' := 23) rfl rfl ?_
            exact ih23 ((m + 0), (v + 1)) (show (0 ≤ (v + 1) ∧ (v + 1) ≤ S 233 113) ∧ (0 ≤ (m + 0) ∧ (m + 0) ≤ (v + 1)) ∧ ((m + 0) = sm (fun jj => bi (tb g w ∧ tb g jj ∧ S 233 (122 + 8 * w + q) = S 233 (122 + 8 * jj + q))) (v + 1)) from by exact ⟨by omega, by omega, by rw [sm_s (by omega), ← i7, bi_0 (fun q => absurd q.2.2 (by first | exact h9 | omega))]⟩) (show (S 233 113 - (v + 1)).toNat < (S 233 113 - v).toNat from by omega)
        · skip
          refine q_callE (pc' := 52) (w := some (.inl 0)) (S2 := S) (st' := [.inl 0, .inl m]) rfl rfl rfl (bi_neg h6 (c_X11_has (s := g) (q := v) (S := S)  (show -2147483648 ≤ g ∧ g < 2147483648 from by omega) (show 0 ≤ v ∧ v < 32 from by omega))) (by decide) rfl rfl (Nat.le_of_ble_eq_true rfl) (fun q => absurd rfl q) rfl rfl ?_
          refine r_if_eq1 (pc' := 92) rfl rfl (by decide) (by decide) ?_
          refine r_const (pc' := 93) rfl rfl ?_
          refine r_iadd (pc' := 94) rfl rfl ?_
          refine r_istore (pc' := 96) (ls' := [some (.inr (.inr 232)), some (.inl g), some (.inl q), some (.inl z), some (.inl w), some (.inl (m + 0)), some (.inl v)]) rfl rfl rfl rfl ?_
          refine r_iinc (pc' := 99) (ls' := [some (.inr (.inr 232)), some (.inl g), some (.inl q), some (.inl z), some (.inl w), some (.inl (m + 0)), some (.inl (v + 1))]) rfl rfl rfl rfl rfl ?_
          refine r_goto (pc' := 23) rfl rfl ?_
          exact ih23 ((m + 0), (v + 1)) (show (0 ≤ (v + 1) ∧ (v + 1) ≤ S 233 113) ∧ (0 ≤ (m + 0) ∧ (m + 0) ≤ (v + 1)) ∧ ((m + 0) = sm (fun jj => bi (tb g w ∧ tb g jj ∧ S 233 (122 + 8 * w + q) = S 233 (122 + 8 * jj + q))) (v + 1)) from by exact ⟨by omega, by omega, by rw [sm_s (by omega), ← i7, bi_0 (fun q => absurd q.2.1 (by first | exact h6 | omega))]⟩) (show (S 233 113 - (v + 1)).toNat < (S 233 113 - v).toNat from by omega)
      · skip
        refine q_callE (pc' := 43) (w := some (.inl 0)) (S2 := S) (st' := [.inl 0, .inl m]) rfl rfl rfl (bi_neg h5 (c_X11_has (s := g) (q := w) (S := S)  (show -2147483648 ≤ g ∧ g < 2147483648 from by omega) (show 0 ≤ w ∧ w < 32 from by omega))) (by decide) rfl rfl (Nat.le_of_ble_eq_true rfl) (fun q => absurd rfl q) rfl rfl ?_
        refine r_if_eq1 (pc' := 92) rfl rfl (by decide) (by decide) ?_
        refine r_const (pc' := 93) rfl rfl ?_
        refine r_iadd (pc' := 94) rfl rfl ?_
        refine r_istore (pc' := 96) (ls' := [some (.inr (.inr 232)), some (.inl g), some (.inl q), some (.inl z), some (.inl w), some (.inl (m + 0)), some (.inl v)]) rfl rfl rfl rfl ?_
        refine r_iinc (pc' := 99) (ls' := [some (.inr (.inr 232)), some (.inl g), some (.inl q), some (.inl z), some (.inl w), some (.inl (m + 0)), some (.inl (v + 1))]) rfl rfl rfl rfl rfl ?_
        refine r_goto (pc' := 23) rfl rfl ?_
        exact ih23 ((m + 0), (v + 1)) (show (0 ≤ (v + 1) ∧ (v + 1) ≤ S 233 113) ∧ (0 ≤ (m + 0) ∧ (m + 0) ≤ (v + 1)) ∧ ((m + 0) = sm (fun jj => bi (tb g w ∧ tb g jj ∧ S 233 (122 + 8 * w + q) = S 233 (122 + 8 * jj + q))) (v + 1)) from by exact ⟨by omega, by omega, by rw [sm_s (by omega), ← i7, bi_0 (fun q => absurd q.1 (by first | exact h5 | omega))]⟩) (show (S 233 113 - (v + 1)).toNat < (S 233 113 - v).toNat from by omega)
    · refine r_icmp_ge1 (pc' := 102) rfl rfl (by omega) (by omega) ?_
      refine r_iload (pc' := 104) rfl rfl rfl ?_
      refine r_iload (pc' := 105) rfl rfl rfl ?_
      by_cases h10 : z < m
      · refine r_icmp_le0 (pc' := 108) rfl rfl (by omega) (by omega) ?_
        refine r_iload (pc' := 110) rfl rfl rfl ?_
        refine r_goto (pc' := 114) rfl rfl ?_
        refine r_istore (pc' := 115) (ls' := [some (.inr (.inr 232)), some (.inl g), some (.inl q), some (.inl m), some (.inl w), some (.inl m), some (.inl v)]) rfl rfl rfl rfl ?_
        refine r_iinc (pc' := 118) (ls' := [some (.inr (.inr 232)), some (.inl g), some (.inl q), some (.inl m), some (.inl (w + 1)), some (.inl m), some (.inl v)]) rfl rfl rfl rfl rfl ?_
        refine r_goto (pc' := 5) rfl rfl ?_
        refine r_forget [true, true, true, true, true, false, false] rfl ?_
        exact ih5 (m, (w + 1)) (show (0 ≤ (w + 1) ∧ (w + 1) ≤ S 233 113) ∧ (0 ≤ m ∧ m ≤ 8) ∧ (m = mxs (fun kk => sm (fun jj => bi (tb g kk ∧ tb g jj ∧ S 233 (122 + 8 * kk + q) = S 233 (122 + 8 * jj + q))) (S 233 113)) (w + 1)) from by have em : m = sm (fun jj => bi (tb g w ∧ tb g jj ∧ S 233 (122 + 8 * w + q) = S 233 (122 + 8 * jj + q))) (S 233 113) := (by rw [show S 233 113 = v by omega]; exact i7); exact ⟨by omega, by omega, by rw [mxs_s (by omega), ← i2, ← em]; unfold mx_max; first | (rw [if_pos (by omega)]; done) | (rw [if_neg (by omega)]; done)⟩) (show (S 233 113 - (w + 1)).toNat < (S 233 113 - w).toNat from by omega)
      · refine r_icmp_le1 (pc' := 113) rfl rfl (by omega) (by omega) ?_
        refine r_iload (pc' := 114) rfl rfl rfl ?_
        refine r_istore (pc' := 115) (ls' := [some (.inr (.inr 232)), some (.inl g), some (.inl q), some (.inl z), some (.inl w), some (.inl m), some (.inl v)]) rfl rfl rfl rfl ?_
        refine r_iinc (pc' := 118) (ls' := [some (.inr (.inr 232)), some (.inl g), some (.inl q), some (.inl z), some (.inl (w + 1)), some (.inl m), some (.inl v)]) rfl rfl rfl rfl rfl ?_
        refine r_goto (pc' := 5) rfl rfl ?_
        refine r_forget [true, true, true, true, true, false, false] rfl ?_
        exact ih5 (z, (w + 1)) (show (0 ≤ (w + 1) ∧ (w + 1) ≤ S 233 113) ∧ (0 ≤ z ∧ z ≤ 8) ∧ (z = mxs (fun kk => sm (fun jj => bi (tb g kk ∧ tb g jj ∧ S 233 (122 + 8 * kk + q) = S 233 (122 + 8 * jj + q))) (S 233 113)) (w + 1)) from by have em : m = sm (fun jj => bi (tb g w ∧ tb g jj ∧ S 233 (122 + 8 * w + q) = S 233 (122 + 8 * jj + q))) (S 233 113) := (by rw [show S 233 113 = v by omega]; exact i7); exact ⟨by omega, by omega, by rw [mxs_s (by omega), ← i2, ← em]; unfold mx_max; first | (rw [if_pos (by omega)]; done) | (rw [if_neg (by omega)]; done)⟩) (show (S 233 113 - (w + 1)).toNat < (S 233 113 - w).toNat from by omega)
  · refine r_icmp_ge1 (pc' := 121) rfl rfl (by omega) (by omega) ?_
    refine r_iload (pc' := 122) rfl rfl rfl ?_
    refine q_iret rfl rfl rfl ?_
    obtain rfl : w = S 233 113 := by omega
    exact ⟨by rw [i2]; rfl, rfl⟩
noncomputable def fkM (S : rS) (f w : Int) : Int := bs (fun kk => fitv S f kk w) (S 233 113)
noncomputable def byM (S : rS) (g f p : Int) : Int := @ite Int (tb (S 236 (0 + f)) p) (Classical.propDecidable _) 1000000 (alM S g p)
noncomputable def whsM (S : rS) (g f : Int) : Int → Int × Int → Int × Int := fun kk z => (if byM S g f kk < z.2 then kk else z.1, mx_min z.2 (byM S g f kk))
noncomputable def wcM (S : rS) (f w : Int) : Int := if fkM S f w = 0 then -1 else (fo (whsM S (fkM S f w) f) (-1, 1000000) (S 233 (22 + f)).toNat).1
theorem wcM_e {S : rS} {f k b z n : Int} (hn : (S 233 (22 + f)).toNat = n.toNat) (h4 : fkM S f k = 0 → b = -1) (h2 : fkM S f k ≠ 0 → fo (whsM S (fkM S f k) f) (-1, 1000000) n.toNat = (b, z)) : b = wcM S f k := by
  unfold wcM
  by_cases hz : fkM S f k = 0
  · rw [if_pos hz]; exact h4 hz
  · rw [if_neg hz, hn, h2 hz]
theorem c_X11_which {f : Int} {k : Int} {S : rS} (hB : Bd S) (h_f : -2147483648 ≤ f ∧ f < 2147483648) (h_k : -2147483648 ≤ k ∧ k < 2147483648) : CS 4 128 [.inr (.inr 232), .inl f, .inl k] S (fun r' S' => r' = some (.inl (if 0 ≤ f ∧ f ≤ S 233 0 - 1 then if 0 ≤ k ∧ k ≤ 1 then wcM S f k else -3 else -2)) ∧ S' = S) := by
  refine RS.beg (ls := [some (.inr (.inr 232)), some (.inl f), some (.inl k), none, none, none, none, none]) rfl rfl rfl rfl rfl ?_
  have n0 : 0 ≤ S 233 0 ∧ S 233 0 ≤ 7 := hB 233 0
  refine r_aload (pc' := 1) rfl rfl rfl ?_
  refine r_iload (pc' := 2) rfl rfl rfl ?_
  have b1 : 0 ≤ S 233 0 ∧ S 233 0 ≤ 7 := hB 233 0
  by_cases h2 : 0 ≤ f ∧ f ≤ S 233 0 - 1
  · skip
    refine q_callE (pc' := 5) (w := some (.inl 1)) (S2 := S) (st' := [.inl 1]) rfl rfl rfl (bi_pos h2 (c_X11_isField (f := f) (S := S) hB (show -2147483648 ≤ f ∧ f < 2147483648 from by omega))) (by decide) rfl rfl (Nat.le_of_ble_eq_true rfl) (fun _ _ => ⟨_, _, rfl, rfl⟩) rfl rfl ?_
    refine r_if_ne1 (pc' := 11) rfl rfl (by decide) (by decide) ?_
    refine r_iload (pc' := 12) rfl rfl rfl ?_
    by_cases h3 : 0 ≤ k ∧ k ≤ 1
    · skip
      refine q_callE (pc' := 15) (w := some (.inl 1)) (S2 := S) (st' := [.inl 1]) rfl rfl rfl (bi_pos h3 (c_X11_isTwo (k := k) (S := S)  (show -2147483648 ≤ k ∧ k < 2147483648 from by omega))) (by decide) rfl rfl (Nat.le_of_ble_eq_true rfl) (fun q => absurd rfl q) rfl rfl ?_
      refine r_if_ne1 (pc' := 21) rfl rfl (by decide) (by decide) ?_
      refine r_aload (pc' := 22) rfl rfl rfl ?_
      refine r_iload (pc' := 23) rfl rfl rfl ?_
      refine r_iload (pc' := 24) rfl rfl rfl ?_
      have b4 : 0 ≤ S 233 113 ∧ S 233 113 ≤ 8 := hB 233 113
      refine q_callE (pc' := 27) (w := some (.inl (bs (fun kk => fitv S f kk k) (S 233 113)))) (S2 := S) (st' := [.inl (bs (fun kk => fitv S f kk k) (S 233 113))]) rfl rfl rfl (c_X11_couldAll (f := f) (wh := k) (S := S) hB (show 0 ≤ f ∧ f < 7 from by omega) (show -2147483648 ≤ k ∧ k < 2147483648 from by omega)) (by decide) rfl rfl (Nat.le_of_ble_eq_true rfl) (fun _ _ => ⟨_, _, rfl, rfl⟩) rfl rfl ?_
      have b5 : 0 ≤ (bs (fun kk => fitv S f kk k) (S 233 113)) ∧ (bs (fun kk => fitv S f kk k) (S 233 113)) < 256 := bs8 (by have q : 0 ≤ S 233 113 ∧ S 233 113 ≤ 8 := hB 233 113; omega)
      refine r_istore (pc' := 28) (ls' := [some (.inr (.inr 232)), some (.inl f), some (.inl k), some (.inl (bs (fun kk => fitv S f kk k) (S 233 113))), none, none, none, none]) rfl rfl rfl rfl ?_
      refine r_const (pc' := 29) rfl rfl ?_
      refine r_istore (pc' := 31) (ls' := [some (.inr (.inr 232)), some (.inl f), some (.inl k), some (.inl (bs (fun kk => fitv S f kk k) (S 233 113))), some (.inl (-1)), none, none, none]) rfl rfl rfl rfl ?_
      refine r_const (pc' := 33) rfl rfl ?_
      refine r_istore (pc' := 35) (ls' := [some (.inr (.inr 232)), some (.inl f), some (.inl k), some (.inl (bs (fun kk => fitv S f kk k) (S 233 113))), some (.inl (-1)), some (.inl 1000000), none, none]) rfl rfl rfl rfl ?_
      refine r_const (pc' := 36) rfl rfl ?_
      refine r_istore (pc' := 38) (ls' := [some (.inr (.inr 232)), some (.inl f), some (.inl k), some (.inl (bs (fun kk => fitv S f kk k) (S 233 113))), some (.inl (-1)), some (.inl 1000000), some (.inl 0), none]) rfl rfl rfl rfl ?_
      have b22 := bdc_233_22 hB f
      refine r_while (α := Int × Int × Int) (fun z' => [some (.inr (.inr 232)), some (.inl f), some (.inl k), some (.inl (bs (fun kk => fitv S f kk k) (S 233 113))), some (.inl z'.1), some (.inl z'.2.1), some (.inl z'.2.2), none]) (fun z' => S) (fun z' => (0 ≤ z'.2.2 ∧ z'.2.2 ≤ S 233 (22 + f)) ∧ (-1 ≤ z'.1 ∧ z'.1 < 8) ∧ (0 ≤ z'.2.1 ∧ z'.2.1 ≤ 1000000) ∧ (fkM S f k = 0 → z'.1 = -1) ∧ (fkM S f k ≠ 0 → fo (whsM S (fkM S f k) f) (-1, 1000000) (z'.2.2).toNat = (z'.1, z'.2.1))) (fun z' => (S 233 (22 + f) - z'.2.2).toNat) ?_ ((-1), 1000000, 0) (show (0 ≤ (0 : Int) ∧ (0 : Int) ≤ S 233 (22 + f)) ∧ (-1 ≤ (-1 : Int) ∧ (-1 : Int) < 8) ∧ (0 ≤ (1000000 : Int) ∧ (1000000 : Int) ≤ 1000000) ∧ (fkM S f k = 0 → (-1 : Int) = -1) ∧ (fkM S f k ≠ 0 → fo (whsM S (fkM S f k) f) (-1, 1000000) (0 : Int).toNat = ((-1 : Int), (1000000 : Int))) from by exact ⟨by omega, by omega, by omega, fun _ => rfl, fun _ => rfl⟩)
      rintro ⟨b, z, p⟩ hI' ih38
      have hI' : (0 ≤ p ∧ p ≤ S 233 (22 + f)) ∧ (-1 ≤ b ∧ b < 8) ∧ (0 ≤ z ∧ z ≤ 1000000) ∧ (fkM S f k = 0 → b = -1) ∧ (fkM S f k ≠ 0 → fo (whsM S (fkM S f k) f) (-1, 1000000) p.toNat = (b, z)) := hI'
      obtain ⟨i1, i3, i5, i4, i2⟩ := hI'
      show RS _ _ _ _ [some (.inr (.inr 232)), some (.inl f), some (.inl k), some (.inl (bs (fun kk => fitv S f kk k) (S 233 113))), some (.inl b), some (.inl z), some (.inl p), none] [] S
      have b6 := bdc_233_22 hB f
      refine r_iload (pc' := 40) rfl rfl rfl ?_
      refine r_aload (pc' := 41) rfl rfl rfl ?_
      refine r_getr (pc' := 44) (v := 233) rfl rfl rfl rfl rfl ?_
      refine r_const (pc' := 46) rfl rfl ?_
      refine r_iload (pc' := 47) rfl rfl rfl ?_
      refine r_iadd (pc' := 48) rfl rfl ?_
      refine r_aldv (pc' := 49) (v := (S 233 (22 + f))) 187 rfl rfl rfl (by omega) rfl ?_
      by_cases h7 : p < (S 233 (22 + f))
      · refine r_icmp_ge0 (pc' := 52) rfl rfl (by omega) (by omega) ?_
        refine r_iload (pc' := 53) rfl rfl rfl ?_
        by_cases h8 : (bs (fun kk => fitv S f kk k) (S 233 113)) = 0
        · refine r_if_eq1 (pc' := 117) rfl rfl (by omega) (by omega) ?_
          refine r_iload (pc' := 119) rfl rfl rfl ?_
          refine q_iret rfl rfl rfl ?_
          exact ⟨by rw [if_pos (by omega), if_pos (by omega)]; unfold wcM; rw [if_pos (show fkM S f k = 0 from h8), i4 h8], rfl⟩
        · refine r_if_eq0 (pc' := 56) rfl rfl (by omega) (by omega) ?_
          refine r_aload (pc' := 57) rfl rfl rfl ?_
          refine r_getr (pc' := 60) (v := 236) rfl rfl rfl rfl rfl ?_
          refine r_const (pc' := 61) rfl rfl ?_
          refine r_iload (pc' := 62) rfl rfl rfl ?_
          refine r_iadd (pc' := 63) rfl rfl ?_
          refine r_aldv (pc' := 64) (v := (S 236 (0 + f))) 12 rfl rfl rfl (by omega) rfl ?_
          have b9 := bdc_236_0 hB f
          refine r_iload (pc' := 66) rfl rfl rfl ?_
          by_cases h10 : tb (S 236 (0 + f)) p
          · skip
            refine q_callE (pc' := 69) (w := some (.inl 1)) (S2 := S) (st' := [.inl 1]) rfl rfl rfl (bi_pos h10 (c_X11_has (s := (S 236 (0 + f))) (q := p) (S := S)  (show -2147483648 ≤ (S 236 (0 + f)) ∧ (S 236 (0 + f)) < 2147483648 from by omega) (show 0 ≤ p ∧ p < 32 from by omega))) (by decide) rfl rfl (Nat.le_of_ble_eq_true rfl) (fun q => absurd rfl q) rfl rfl ?_
            refine r_if_eq0 (pc' := 72) rfl rfl (by decide) (by decide) ?_
            refine r_const (pc' := 74) rfl rfl ?_
            refine r_goto (pc' := 84) rfl rfl ?_
            refine r_istore (pc' := 86) (ls' := [some (.inr (.inr 232)), some (.inl f), some (.inl k), some (.inl (bs (fun kk => fitv S f kk k) (S 233 113))), some (.inl b), some (.inl z), some (.inl p), some (.inl 1000000)]) rfl rfl rfl rfl ?_
            refine r_iload (pc' := 88) rfl rfl rfl ?_
            refine r_iload (pc' := 90) rfl rfl rfl ?_
            by_cases h11 : 1000000 < z
            · refine r_icmp_ge0 (pc' := 93) rfl rfl (by omega) (by omega) ?_
              refine r_iload (pc' := 95) rfl rfl rfl ?_
              refine r_goto (pc' := 100) rfl rfl ?_
              refine r_istore (pc' := 102) (ls' := [some (.inr (.inr 232)), some (.inl f), some (.inl k), some (.inl (bs (fun kk => fitv S f kk k) (S 233 113))), some (.inl p), some (.inl z), some (.inl p), some (.inl 1000000)]) rfl rfl rfl rfl ?_
              refine r_iload (pc' := 104) rfl rfl rfl ?_
              refine r_iload (pc' := 106) rfl rfl rfl ?_
              refine q_callE (pc' := 109) (w := some (.inl (mx_min z (1000000 : Int)))) (S2 := S) (st' := [.inl (mx_min z (1000000 : Int))]) rfl rfl rfl (c_X11_lesser (a := 1000000) (b := z) (S := S)  (show -2147483648 ≤ (1000000 : Int) ∧ (1000000 : Int) < 2147483648 from by omega) (show -2147483648 ≤ z ∧ z < 2147483648 from by omega)) (by decide) rfl rfl (Nat.le_of_ble_eq_true rfl) (fun q => absurd rfl q) rfl rfl ?_
              have b12 : ((mx_min z (1000000 : Int)) = z ∨ (mx_min z (1000000 : Int)) = (1000000 : Int)) ∧ (mx_min z (1000000 : Int)) ≤ z ∧ (mx_min z (1000000 : Int)) ≤ (1000000 : Int) := mx_min_b _ _
              refine r_istore (pc' := 111) (ls' := [some (.inr (.inr 232)), some (.inl f), some (.inl k), some (.inl (bs (fun kk => fitv S f kk k) (S 233 113))), some (.inl p), some (.inl (mx_min z (1000000 : Int))), some (.inl p), some (.inl 1000000)]) rfl rfl rfl rfl ?_
              refine r_iinc (pc' := 114) (ls' := [some (.inr (.inr 232)), some (.inl f), some (.inl k), some (.inl (bs (fun kk => fitv S f kk k) (S 233 113))), some (.inl p), some (.inl (mx_min z (1000000 : Int))), some (.inl (p + 1)), some (.inl 1000000)]) rfl rfl rfl rfl rfl ?_
              refine r_goto (pc' := 38) rfl rfl ?_
              refine r_forget [true, true, true, true, true, true, true, false] rfl ?_
              exact ih38 (p, (mx_min z (1000000 : Int)), (p + 1)) (show (0 ≤ (p + 1) ∧ (p + 1) ≤ S 233 (22 + f)) ∧ (-1 ≤ p ∧ p < 8) ∧ (0 ≤ (mx_min z (1000000 : Int)) ∧ (mx_min z (1000000 : Int)) ≤ 1000000) ∧ (fkM S f k = 0 → p = -1) ∧ (fkM S f k ≠ 0 → fo (whsM S (fkM S f k) f) (-1, 1000000) (p + 1).toNat = (p, (mx_min z (1000000 : Int)))) from by have eb : byM S (fkM S f k) f p = 1000000 := if_pos h10; exact ⟨by omega, by omega, by omega, fun q => absurd q (by assumption), fun q => by rw [fo_s (by omega), i2 q]; show (if byM S (fkM S f k) f p < z then p else b, mx_min z (byM S (fkM S f k) f p)) = _; rw [eb, if_pos (by omega)]⟩) (show (S 233 (22 + f) - (p + 1)).toNat < (S 233 (22 + f) - p).toNat from by omega)
            · refine r_icmp_ge1 (pc' := 98) rfl rfl (by omega) (by omega) ?_
              refine r_iload (pc' := 100) rfl rfl rfl ?_
              refine r_istore (pc' := 102) (ls' := [some (.inr (.inr 232)), some (.inl f), some (.inl k), some (.inl (bs (fun kk => fitv S f kk k) (S 233 113))), some (.inl b), some (.inl z), some (.inl p), some (.inl 1000000)]) rfl rfl rfl rfl ?_
              refine r_iload (pc' := 104) rfl rfl rfl ?_
              refine r_iload (pc' := 106) rfl rfl rfl ?_
              refine q_callE (pc' := 109) (w := some (.inl (mx_min z (1000000 : Int)))) (S2 := S) (st' := [.inl (mx_min z (1000000 : Int))]) rfl rfl rfl (c_X11_lesser (a := 1000000) (b := z) (S := S)  (show -2147483648 ≤ (1000000 : Int) ∧ (1000000 : Int) < 2147483648 from by omega) (show -2147483648 ≤ z ∧ z < 2147483648 from by omega)) (by decide) rfl rfl (Nat.le_of_ble_eq_true rfl) (fun q => absurd rfl q) rfl rfl ?_
              have b13 : ((mx_min z (1000000 : Int)) = z ∨ (mx_min z (1000000 : Int)) = (1000000 : Int)) ∧ (mx_min z (1000000 : Int)) ≤ z ∧ (mx_min z (1000000 : Int)) ≤ (1000000 : Int) := mx_min_b _ _
              refine r_istore (pc' := 111) (ls' := [some (.inr (.inr 232)), some (.inl f), some (.inl k), some (.inl (bs (fun kk => fitv S f kk k) (S 233 113))), some (.inl b), some (.inl (mx_min z (1000000 : Int))), some (.inl p), some (.inl 1000000)]) rfl rfl rfl rfl ?_
              refine r_iinc (pc' := 114) (ls' := [some (.inr (.inr 232)), some (.inl f), some (.inl k), some (.inl (bs (fun kk => fitv S f kk k) (S 233 113))), some (.inl b), some (.inl (mx_min z (1000000 : Int))), some (.inl (p + 1)), some (.inl 1000000)]) rfl rfl rfl rfl rfl ?_
              refine r_goto (pc' := 38) rfl rfl ?_
              refine r_forget [true, true, true, true, true, true, true, false] rfl ?_
              exact ih38 (b, (mx_min z (1000000 : Int)), (p + 1)) (show (0 ≤ (p + 1) ∧ (p + 1) ≤ S 233 (22 + f)) ∧ (-1 ≤ b ∧ b < 8) ∧ (0 ≤ (mx_min z (1000000 : Int)) ∧ (mx_min z (1000000 : Int)) ≤ 1000000) ∧ (fkM S f k = 0 → b = -1) ∧ (fkM S f k ≠ 0 → fo (whsM S (fkM S f k) f) (-1, 1000000) (p + 1).toNat = (b, (mx_min z (1000000 : Int)))) from by have eb : byM S (fkM S f k) f p = 1000000 := if_pos h10; exact ⟨by omega, by omega, by omega, fun q => absurd q (by assumption), fun q => by rw [fo_s (by omega), i2 q]; show (if byM S (fkM S f k) f p < z then p else b, mx_min z (byM S (fkM S f k) f p)) = _; rw [eb, if_neg (by omega)]⟩) (show (S 233 (22 + f) - (p + 1)).toNat < (S 233 (22 + f) - p).toNat from by omega)
          · skip
            refine q_callE (pc' := 69) (w := some (.inl 0)) (S2 := S) (st' := [.inl 0]) rfl rfl rfl (bi_neg h10 (c_X11_has (s := (S 236 (0 + f))) (q := p) (S := S)  (show -2147483648 ≤ (S 236 (0 + f)) ∧ (S 236 (0 + f)) < 2147483648 from by omega) (show 0 ≤ p ∧ p < 32 from by omega))) (by decide) rfl rfl (Nat.le_of_ble_eq_true rfl) (fun q => absurd rfl q) rfl rfl ?_
            refine r_if_eq1 (pc' := 77) rfl rfl (by decide) (by decide) ?_
            refine r_aload (pc' := 78) rfl rfl rfl ?_
            refine r_iload (pc' := 79) rfl rfl rfl ?_
            refine r_iload (pc' := 81) rfl rfl rfl ?_
            refine q_callE (pc' := 84) (w := some (.inl (alM S (bs (fun kk => fitv S f kk k) (S 233 113)) p))) (S2 := S) (st' := [.inl (alM S (bs (fun kk => fitv S f kk k) (S 233 113)) p)]) rfl rfl rfl (c_X11_alike (g := (bs (fun kk => fitv S f kk k) (S 233 113))) (q := p) (S := S) hB (show 0 ≤ (bs (fun kk => fitv S f kk k) (S 233 113)) ∧ (bs (fun kk => fitv S f kk k) (S 233 113)) < 256 from by omega) (show 0 ≤ p ∧ p < 8 from by omega)) (by decide) rfl rfl (Nat.le_of_ble_eq_true rfl) (fun _ _ => ⟨_, _, rfl, rfl⟩) rfl rfl ?_
            have b14 : 0 ≤ (alM S (bs (fun kk => fitv S f kk k) (S 233 113)) p) ∧ (alM S (bs (fun kk => fitv S f kk k) (S 233 113)) p) ≤ 8 := alM_r hB _ _
            refine r_istore (pc' := 86) (ls' := [some (.inr (.inr 232)), some (.inl f), some (.inl k), some (.inl (bs (fun kk => fitv S f kk k) (S 233 113))), some (.inl b), some (.inl z), some (.inl p), some (.inl (alM S (bs (fun kk => fitv S f kk k) (S 233 113)) p))]) rfl rfl rfl rfl ?_
            refine r_iload (pc' := 88) rfl rfl rfl ?_
            refine r_iload (pc' := 90) rfl rfl rfl ?_
            by_cases h15 : (alM S (bs (fun kk => fitv S f kk k) (S 233 113)) p) < z
            · refine r_icmp_ge0 (pc' := 93) rfl rfl (by omega) (by omega) ?_
              refine r_iload (pc' := 95) rfl rfl rfl ?_
              refine r_goto (pc' := 100) rfl rfl ?_
              refine r_istore (pc' := 102) (ls' := [some (.inr (.inr 232)), some (.inl f), some (.inl k), some (.inl (bs (fun kk => fitv S f kk k) (S 233 113))), some (.inl p), some (.inl z), some (.inl p), some (.inl (alM S (bs (fun kk => fitv S f kk k) (S 233 113)) p))]) rfl rfl rfl rfl ?_
              refine r_iload (pc' := 104) rfl rfl rfl ?_
              refine r_iload (pc' := 106) rfl rfl rfl ?_
              refine q_callE (pc' := 109) (w := some (.inl (mx_min z (alM S (bs (fun kk => fitv S f kk k) (S 233 113)) p)))) (S2 := S) (st' := [.inl (mx_min z (alM S (bs (fun kk => fitv S f kk k) (S 233 113)) p))]) rfl rfl rfl (c_X11_lesser (a := (alM S (bs (fun kk => fitv S f kk k) (S 233 113)) p)) (b := z) (S := S)  (show -2147483648 ≤ (alM S (bs (fun kk => fitv S f kk k) (S 233 113)) p) ∧ (alM S (bs (fun kk => fitv S f kk k) (S 233 113)) p) < 2147483648 from by omega) (show -2147483648 ≤ z ∧ z < 2147483648 from by omega)) (by decide) rfl rfl (Nat.le_of_ble_eq_true rfl) (fun q => absurd rfl q) rfl rfl ?_
              have b16 : ((mx_min z (alM S (bs (fun kk => fitv S f kk k) (S 233 113)) p)) = z ∨ (mx_min z (alM S (bs (fun kk => fitv S f kk k) (S 233 113)) p)) = (alM S (bs (fun kk => fitv S f kk k) (S 233 113)) p)) ∧ (mx_min z (alM S (bs (fun kk => fitv S f kk k) (S 233 113)) p)) ≤ z ∧ (mx_min z (alM S (bs (fun kk => fitv S f kk k) (S 233 113)) p)) ≤ (alM S (bs (fun kk => fitv S f kk k) (S 233 113)) p) := mx_min_b _ _
              refine r_istore (pc' := 111) (ls' := [some (.inr (.inr 232)), some (.inl f), some (.inl k), some (.inl (bs (fun kk => fitv S f kk k) (S 233 113))), some (.inl p), some (.inl (mx_min z (alM S (bs (fun kk => fitv S f kk k) (S 233 113)) p))), some (.inl p), some (.inl (alM S (bs (fun kk => fitv S f kk k) (S 233 113)) p))]) rfl rfl rfl rfl ?_
              refine r_iinc (pc' := 114) (ls' := [some (.inr (.inr 232)), some (.inl f), some (.inl k), some (.inl (bs (fun kk => fitv S f kk k) (S 233 113))), some (.inl p), some (.inl (mx_min z (alM S (bs (fun kk => fitv S f kk k) (S 233 113)) p))), some (.inl (p + 1)), some (.inl (alM S (bs (fun kk => fitv S f kk k) (S 233 113)) p))]) rfl rfl rfl rfl rfl ?_
              refine r_goto (pc' := 38) rfl rfl ?_
              refine r_forget [true, true, true, true, true, true, true, false] rfl ?_
              exact ih38 (p, (mx_min z (alM S (bs (fun kk => fitv S f kk k) (S 233 113)) p)), (p + 1)) (show (0 ≤ (p + 1) ∧ (p + 1) ≤ S 233 (22 + f)) ∧ (-1 ≤ p ∧ p < 8) ∧ (0 ≤ (mx_min z (alM S (bs (fun kk => fitv S f kk k) (S 233 113)) p)) ∧ (mx_min z (alM S (bs (fun kk => fitv S f kk k) (S 233 113)) p)) ≤ 1000000) ∧ (fkM S f k = 0 → p = -1) ∧ (fkM S f k ≠ 0 → fo (whsM S (fkM S f k) f) (-1, 1000000) (p + 1).toNat = (p, (mx_min z (alM S (bs (fun kk => fitv S f kk k) (S 233 113)) p)))) from by have eb : byM S (fkM S f k) f p = alM S (bs (fun kk => fitv S f kk k) (S 233 113)) p := if_neg h10; exact ⟨by omega, by omega, by omega, fun q => absurd q (by assumption), fun q => by rw [fo_s (by omega), i2 q]; show (if byM S (fkM S f k) f p < z then p else b, mx_min z (byM S (fkM S f k) f p)) = _; rw [eb, if_pos (by omega)]⟩) (show (S 233 (22 + f) - (p + 1)).toNat < (S 233 (22 + f) - p).toNat from by omega)
            · refine r_icmp_ge1 (pc' := 98) rfl rfl (by omega) (by omega) ?_
              refine r_iload (pc' := 100) rfl rfl rfl ?_
              refine r_istore (pc' := 102) (ls' := [some (.inr (.inr 232)), some (.inl f), some (.inl k), some (.inl (bs (fun kk => fitv S f kk k) (S 233 113))), some (.inl b), some (.inl z), some (.inl p), some (.inl (alM S (bs (fun kk => fitv S f kk k) (S 233 113)) p))]) rfl rfl rfl rfl ?_
              refine r_iload (pc' := 104) rfl rfl rfl ?_
              refine r_iload (pc' := 106) rfl rfl rfl ?_
              refine q_callE (pc' := 109) (w := some (.inl (mx_min z (alM S (bs (fun kk => fitv S f kk k) (S 233 113)) p)))) (S2 := S) (st' := [.inl (mx_min z (alM S (bs (fun kk => fitv S f kk k) (S 233 113)) p))]) rfl rfl rfl (c_X11_lesser (a := (alM S (bs (fun kk => fitv S f kk k) (S 233 113)) p)) (b := z) (S := S)  (show -2147483648 ≤ (alM S (bs (fun kk => fitv S f kk k) (S 233 113)) p) ∧ (alM S (bs (fun kk => fitv S f kk k) (S 233 113)) p) < 2147483648 from by omega) (show -2147483648 ≤ z ∧ z < 2147483648 from by omega)) (by decide) rfl rfl (Nat.le_of_ble_eq_true rfl) (fun q => absurd rfl q) rfl rfl ?_
              have b17 : ((mx_min z (alM S (bs (fun kk => fitv S f kk k) (S 233 113)) p)) = z ∨ (mx_min z (alM S (bs (fun kk => fitv S f kk k) (S 233 113)) p)) = (alM S (bs (fun kk => fitv S f kk k) (S 233 113)) p)) ∧ (mx_min z (alM S (bs (fun kk => fitv S f kk k) (S 233 113)) p)) ≤ z ∧ (mx_min z (alM S (bs (fun kk => fitv S f kk k) (S 233 113)) p)) ≤ (alM S (bs (fun kk => fitv S f kk k) (S 233 113)) p) := mx_min_b _ _
              refine r_istore (pc' := 111) (ls' := [some (.inr (.inr 232)), some (.inl f), some (.inl k), some (.inl (bs (fun kk => fitv S f kk k) (S 233 113))), some (.inl b), some (.inl (mx_min z (alM S (bs (fun kk => fitv S f kk k) (S 233 113)) p))), some (.inl p), some (.inl (alM S (bs (fun kk => fitv S f kk k) (S 233 113)) p))]) rfl rfl rfl rfl ?_
              refine r_iinc (pc' := 114) (ls' := [some (.inr (.inr 232)), some (.inl f), some (.inl k), some (.inl (bs (fun kk => fitv S f kk k) (S 233 113))), some (.inl b), some (.inl (mx_min z (alM S (bs (fun kk => fitv S f kk k) (S 233 113)) p))), some (.inl (p + 1)), some (.inl (alM S (bs (fun kk => fitv S f kk k) (S 233 113)) p))]) rfl rfl rfl rfl rfl ?_
              refine r_goto (pc' := 38) rfl rfl ?_
              refine r_forget [true, true, true, true, true, true, true, false] rfl ?_
              exact ih38 (b, (mx_min z (alM S (bs (fun kk => fitv S f kk k) (S 233 113)) p)), (p + 1)) (show (0 ≤ (p + 1) ∧ (p + 1) ≤ S 233 (22 + f)) ∧ (-1 ≤ b ∧ b < 8) ∧ (0 ≤ (mx_min z (alM S (bs (fun kk => fitv S f kk k) (S 233 113)) p)) ∧ (mx_min z (alM S (bs (fun kk => fitv S f kk k) (S 233 113)) p)) ≤ 1000000) ∧ (fkM S f k = 0 → b = -1) ∧ (fkM S f k ≠ 0 → fo (whsM S (fkM S f k) f) (-1, 1000000) (p + 1).toNat = (b, (mx_min z (alM S (bs (fun kk => fitv S f kk k) (S 233 113)) p)))) from by have eb : byM S (fkM S f k) f p = alM S (bs (fun kk => fitv S f kk k) (S 233 113)) p := if_neg h10; exact ⟨by omega, by omega, by omega, fun q => absurd q (by assumption), fun q => by rw [fo_s (by omega), i2 q]; show (if byM S (fkM S f k) f p < z then p else b, mx_min z (byM S (fkM S f k) f p)) = _; rw [eb, if_neg (by omega)]⟩) (show (S 233 (22 + f) - (p + 1)).toNat < (S 233 (22 + f) - p).toNat from by omega)
      · refine r_icmp_ge1 (pc' := 117) rfl rfl (by omega) (by omega) ?_
        refine r_iload (pc' := 119) rfl rfl rfl ?_
        refine q_iret rfl rfl rfl ?_
        exact ⟨by rw [if_pos (by omega), if_pos (by omega)]; exact congrArg (fun z => some (Sum.inl z)) (wcM_e (n := p) (by omega) i4 i2), rfl⟩
    · skip
      refine q_callE (pc' := 15) (w := some (.inl 0)) (S2 := S) (st' := [.inl 0]) rfl rfl rfl (bi_neg h3 (c_X11_isTwo (k := k) (S := S)  (show -2147483648 ≤ k ∧ k < 2147483648 from by omega))) (by decide) rfl rfl (Nat.le_of_ble_eq_true rfl) (fun q => absurd rfl q) rfl rfl ?_
      refine r_if_ne0 (pc' := 18) rfl rfl (by decide) (by decide) ?_
      refine r_const (pc' := 20) rfl rfl ?_
      refine q_iret rfl rfl rfl ?_
      exact ⟨by rw [if_pos (by omega), if_neg (by omega)], rfl⟩
  · skip
    refine q_callE (pc' := 5) (w := some (.inl 0)) (S2 := S) (st' := [.inl 0]) rfl rfl rfl (bi_neg h2 (c_X11_isField (f := f) (S := S) hB (show -2147483648 ≤ f ∧ f < 2147483648 from by omega))) (by decide) rfl rfl (Nat.le_of_ble_eq_true rfl) (fun _ _ => ⟨_, _, rfl, rfl⟩) rfl rfl ?_
    refine r_if_ne0 (pc' := 8) rfl rfl (by decide) (by decide) ?_
    refine r_const (pc' := 10) rfl rfl ?_
    refine q_iret rfl rfl rfl ?_
    exact ⟨by rw [if_neg (by omega)], rfl⟩
theorem c_X11_kinds {f : Int} {S : rS} (hB : Bd S) (h_f : -2147483648 ≤ f ∧ f < 2147483648) : CS 3 94 [.inr (.inr 232), .inl f] S (fun r' S' => r' = some (.inl (if 0 ≤ f ∧ f ≤ S 233 0 - 1 then bs (fun kk => ∀ xx, 0 ≤ xx → xx < S 232 11 → S 241 (3 * xx) = f → mins kk (S 241 (3 * xx + 1)) = S 241 (3 * xx + 2)) 4 else -2)) ∧ S' = S) := by
  refine RS.beg (ls := [some (.inr (.inr 232)), some (.inl f), none, none, none, none]) rfl rfl rfl rfl rfl ?_
  have n0 : 0 ≤ S 233 0 ∧ S 233 0 ≤ 7 := hB 233 0
  have z11 : 0 ≤ S 232 11 ∧ S 232 11 ≤ 6 := hB 232 11
  refine r_aload (pc' := 1) rfl rfl rfl ?_
  refine r_iload (pc' := 2) rfl rfl rfl ?_
  have b1 : 0 ≤ S 233 0 ∧ S 233 0 ≤ 7 := hB 233 0
  by_cases h2 : 0 ≤ f ∧ f ≤ S 233 0 - 1
  · skip
    refine q_callE (pc' := 5) (w := some (.inl 1)) (S2 := S) (st' := [.inl 1]) rfl rfl rfl (bi_pos h2 (c_X11_isField (f := f) (S := S) hB (show -2147483648 ≤ f ∧ f < 2147483648 from by omega))) (by decide) rfl rfl (Nat.le_of_ble_eq_true rfl) (fun _ _ => ⟨_, _, rfl, rfl⟩) rfl rfl ?_
    refine r_if_ne1 (pc' := 11) rfl rfl (by decide) (by decide) ?_
    refine r_const (pc' := 12) rfl rfl ?_
    refine r_istore (pc' := 13) (ls' := [some (.inr (.inr 232)), some (.inl f), some (.inl 0), none, none, none]) rfl rfl rfl rfl ?_
    refine r_const (pc' := 14) rfl rfl ?_
    refine r_istore (pc' := 15) (ls' := [some (.inr (.inr 232)), some (.inl f), some (.inl 0), some (.inl 0), none, none]) rfl rfl rfl rfl ?_
    refine r_while (α := Int × Int) (fun z' => [some (.inr (.inr 232)), some (.inl f), some (.inl z'.2), some (.inl z'.1), none, none]) (fun z' => S) (fun z' => (0 ≤ z'.1 ∧ z'.1 ≤ 4) ∧ (0 ≤ z'.2 ∧ z'.2 < 16) ∧ (z'.2 = bs (fun kk => ∀ xx, 0 ≤ xx → xx < S 232 11 → S 241 (3 * xx) = f → mins kk (S 241 (3 * xx + 1)) = S 241 (3 * xx + 2)) z'.1)) (fun z' => (4 - z'.1).toNat) ?_ (0, 0) (show (0 ≤ (0 : Int) ∧ (0 : Int) ≤ 4) ∧ (0 ≤ (0 : Int) ∧ (0 : Int) < 16) ∧ ((0 : Int) = bs (fun kk => ∀ xx, 0 ≤ xx → xx < S 232 11 → S 241 (3 * xx) = f → mins kk (S 241 (3 * xx + 1)) = S 241 (3 * xx + 2)) (0 : Int)) from by exact ⟨by omega, by omega, rfl⟩)
    rintro ⟨x, s⟩ hI' ih15
    have hI' : (0 ≤ x ∧ x ≤ 4) ∧ (0 ≤ s ∧ s < 16) ∧ (s = bs (fun kk => ∀ xx, 0 ≤ xx → xx < S 232 11 → S 241 (3 * xx) = f → mins kk (S 241 (3 * xx + 1)) = S 241 (3 * xx + 2)) x) := hI'
    obtain ⟨i1, i3, i2⟩ := hI'
    show RS _ _ _ _ [some (.inr (.inr 232)), some (.inl f), some (.inl s), some (.inl x), none, none] [] S
    have b3 : 0 ≤ S 232 11 ∧ S 232 11 ≤ 6 := hB 232 11
    refine r_iload (pc' := 16) rfl rfl rfl ?_
    refine r_const (pc' := 17) rfl rfl ?_
    by_cases h4 : x < 4
    · refine r_icmp_ge0 (pc' := 20) rfl rfl (by omega) (by omega) ?_
      refine r_const (pc' := 21) rfl rfl ?_
      refine r_istore (pc' := 23) (ls' := [some (.inr (.inr 232)), some (.inl f), some (.inl s), some (.inl x), some (.inl 1), none]) rfl rfl rfl rfl ?_
      refine r_const (pc' := 24) rfl rfl ?_
      refine r_istore (pc' := 26) (ls' := [some (.inr (.inr 232)), some (.inl f), some (.inl s), some (.inl x), some (.inl 1), some (.inl 0)]) rfl rfl rfl rfl ?_
      refine r_while (α := Int × Int) (fun z' => [some (.inr (.inr 232)), some (.inl f), some (.inl s), some (.inl x), some (.inl z'.1), some (.inl z'.2)]) (fun z' => S) (fun z' => ((0 ≤ z'.2 ∧ z'.2 ≤ 3 * S 232 11) ∧ z'.2 % 3 = 0) ∧ (z'.1 = 0 ∨ z'.1 = 1) ∧ (z'.1 = 1 → ∀ xx, 0 ≤ xx → 3 * xx < z'.2 → S 241 (3 * xx) = f → mins x (S 241 (3 * xx + 1)) = S 241 (3 * xx + 2)) ∧ (z'.1 = 0 → ¬ (∀ xx, 0 ≤ xx → xx < S 232 11 → S 241 (3 * xx) = f → mins x (S 241 (3 * xx + 1)) = S 241 (3 * xx + 2)))) (fun z' => (3 * S 232 11 - z'.2).toNat) ?_ (1, 0) (show ((0 ≤ (0 : Int) ∧ (0 : Int) ≤ 3 * S 232 11) ∧ (0 : Int) % 3 = 0) ∧ ((1 : Int) = 0 ∨ (1 : Int) = 1) ∧ ((1 : Int) = 1 → ∀ xx, 0 ≤ xx → 3 * xx < (0 : Int) → S 241 (3 * xx) = f → mins x (S 241 (3 * xx + 1)) = S 241 (3 * xx + 2)) ∧ ((1 : Int) = 0 → ¬ (∀ xx, 0 ≤ xx → xx < S 232 11 → S 241 (3 * xx) = f → mins x (S 241 (3 * xx + 1)) = S 241 (3 * xx + 2))) from by exact ⟨by omega, by omega, fun _ y h1 h2 => absurd h2 (by omega), fun z => absurd z (by omega)⟩)
      rintro ⟨u, k⟩ hI' ih26
      have hI' : ((0 ≤ k ∧ k ≤ 3 * S 232 11) ∧ k % 3 = 0) ∧ (u = 0 ∨ u = 1) ∧ (u = 1 → ∀ xx, 0 ≤ xx → 3 * xx < k → S 241 (3 * xx) = f → mins x (S 241 (3 * xx + 1)) = S 241 (3 * xx + 2)) ∧ (u = 0 → ¬ (∀ xx, 0 ≤ xx → xx < S 232 11 → S 241 (3 * xx) = f → mins x (S 241 (3 * xx + 1)) = S 241 (3 * xx + 2))) := hI'
      obtain ⟨i5, i8, i6, i7⟩ := hI'
      show RS _ _ _ _ [some (.inr (.inr 232)), some (.inl f), some (.inl s), some (.inl x), some (.inl u), some (.inl k)] [] S
      refine r_iload (pc' := 28) rfl rfl rfl ?_
      refine r_const (pc' := 29) rfl rfl ?_
      refine r_aload (pc' := 30) rfl rfl rfl ?_
      refine r_getv (pc' := 33) (v := (S 232 11)) rfl rfl (Or.inl rfl) rfl rfl ?_
      refine r_imul (pc' := 34) rfl rfl ?_
      by_cases h5 : k < (3 * (S 232 11))
      · refine r_icmp_ge0 (pc' := 37) rfl rfl (by omega) (by omega) ?_
        refine r_iload (pc' := 39) rfl rfl rfl ?_
        by_cases h6 : u = 0
        · refine r_if_eq1 (pc' := 82) rfl rfl (by omega) (by omega) ?_
          refine r_const (pc' := 83) rfl rfl ?_
          refine r_istore (pc' := 85) (ls' := [some (.inr (.inr 232)), some (.inl f), some (.inl s), some (.inl x), some (.inl 0), some (.inl k)]) rfl rfl rfl rfl ?_
          refine r_iinc (pc' := 88) (ls' := [some (.inr (.inr 232)), some (.inl f), some (.inl s), some (.inl x), some (.inl 0), some (.inl (k + 3))]) rfl rfl rfl rfl rfl ?_
          refine r_goto (pc' := 26) rfl rfl ?_
          exact ih26 (0, (k + 3)) (show ((0 ≤ (k + 3) ∧ (k + 3) ≤ 3 * S 232 11) ∧ (k + 3) % 3 = 0) ∧ ((0 : Int) = 0 ∨ (0 : Int) = 1) ∧ ((0 : Int) = 1 → ∀ xx, 0 ≤ xx → 3 * xx < (k + 3) → S 241 (3 * xx) = f → mins x (S 241 (3 * xx + 1)) = S 241 (3 * xx + 2)) ∧ ((0 : Int) = 0 → ¬ (∀ xx, 0 ≤ xx → xx < S 232 11 → S 241 (3 * xx) = f → mins x (S 241 (3 * xx + 1)) = S 241 (3 * xx + 2))) from by exact ⟨by omega, by omega, fun z => absurd z (by omega), fun _ => i7 (by omega)⟩) (show (3 * S 232 11 - (k + 3)).toNat < (3 * S 232 11 - k).toNat from by omega)
        · refine r_if_eq0 (pc' := 42) rfl rfl (by omega) (by omega) ?_
          refine r_aload (pc' := 43) rfl rfl rfl ?_
          refine r_getr (pc' := 46) (v := 241) rfl rfl rfl rfl rfl ?_
          refine r_iload (pc' := 48) rfl rfl rfl ?_
          refine r_aldv (pc' := 49) (v := (S 241 k)) 18 rfl rfl rfl (by omega) rfl ?_
          have b7 : 0 ≤ S 241 k ∧ S 241 k ≤ 60 := hB 241 k
          refine r_iload (pc' := 50) rfl rfl rfl ?_
          by_cases h8 : (S 241 k) = f
          · refine r_icmp_ne0 (pc' := 53) rfl rfl (by omega) (by omega) ?_
            refine r_iload (pc' := 54) rfl rfl rfl ?_
            refine r_aload (pc' := 55) rfl rfl rfl ?_
            refine r_getr (pc' := 58) (v := 241) rfl rfl rfl rfl rfl ?_
            refine r_iload (pc' := 60) rfl rfl rfl ?_
            refine r_const (pc' := 61) rfl rfl ?_
            refine r_iadd (pc' := 62) rfl rfl ?_
            refine r_aldv (pc' := 63) (v := (S 241 (k + 1))) 18 rfl rfl rfl (by omega) rfl ?_
            have b9 : 0 ≤ S 241 (k + 1) ∧ S 241 (k + 1) ≤ 60 := hB 241 (k + 1)
            refine q_callE (pc' := 66) (w := some (.inl (mins x (S 241 (k + 1))))) (S2 := S) (st' := [.inl (mins x (S 241 (k + 1)))]) rfl rfl rfl (c_X11_minutesOf (k := x) (n := (S 241 (k + 1))) (S := S)  (show -2147483648 ≤ x ∧ x < 2147483648 from by omega) (show 0 ≤ (S 241 (k + 1)) ∧ (S 241 (k + 1)) < 1000 from by omega)) (by decide) rfl rfl (Nat.le_of_ble_eq_true rfl) (fun q => absurd rfl q) rfl rfl ?_
            have b10 : 0 ≤ (mins x (S 241 (k + 1))) ∧ (mins x (S 241 (k + 1))) ≤ 4 * (S 241 (k + 1)) + 2 := mins_r (by omega)
            refine r_aload (pc' := 67) rfl rfl rfl ?_
            refine r_getr (pc' := 70) (v := 241) rfl rfl rfl rfl rfl ?_
            refine r_iload (pc' := 72) rfl rfl rfl ?_
            refine r_const (pc' := 73) rfl rfl ?_
            refine r_iadd (pc' := 74) rfl rfl ?_
            refine r_aldv (pc' := 75) (v := (S 241 (k + 2))) 18 rfl rfl rfl (by omega) rfl ?_
            have b11 : 0 ≤ S 241 (k + 2) ∧ S 241 (k + 2) ≤ 60 := hB 241 (k + 2)
            by_cases h12 : (mins x (S 241 (k + 1))) = (S 241 (k + 2))
            · refine r_icmp_ne0 (pc' := 78) rfl rfl (by omega) (by omega) ?_
              refine r_const (pc' := 79) rfl rfl ?_
              refine r_goto (pc' := 83) rfl rfl ?_
              refine r_istore (pc' := 85) (ls' := [some (.inr (.inr 232)), some (.inl f), some (.inl s), some (.inl x), some (.inl 1), some (.inl k)]) rfl rfl rfl rfl ?_
              refine r_iinc (pc' := 88) (ls' := [some (.inr (.inr 232)), some (.inl f), some (.inl s), some (.inl x), some (.inl 1), some (.inl (k + 3))]) rfl rfl rfl rfl rfl ?_
              refine r_goto (pc' := 26) rfl rfl ?_
              exact ih26 (1, (k + 3)) (show ((0 ≤ (k + 3) ∧ (k + 3) ≤ 3 * S 232 11) ∧ (k + 3) % 3 = 0) ∧ ((1 : Int) = 0 ∨ (1 : Int) = 1) ∧ ((1 : Int) = 1 → ∀ xx, 0 ≤ xx → 3 * xx < (k + 3) → S 241 (3 * xx) = f → mins x (S 241 (3 * xx + 1)) = S 241 (3 * xx + 2)) ∧ ((1 : Int) = 0 → ¬ (∀ xx, 0 ≤ xx → xx < S 232 11 → S 241 (3 * xx) = f → mins x (S 241 (3 * xx + 1)) = S 241 (3 * xx + 2))) from by exact ⟨by omega, by omega, fun _ y h1 h2 h3 => by
          by_cases hy : 3 * y < k
          · exact i6 (by omega) y h1 hy h3
          · have e : k = 3 * y := by omega
            subst e
            first | omega | (exact absurd h3 (by assumption)) | assumption, fun z => absurd z (by omega)⟩) (show (3 * S 232 11 - (k + 3)).toNat < (3 * S 232 11 - k).toNat from by omega)
            · refine r_icmp_ne1 (pc' := 82) rfl rfl (by omega) (by omega) ?_
              refine r_const (pc' := 83) rfl rfl ?_
              refine r_istore (pc' := 85) (ls' := [some (.inr (.inr 232)), some (.inl f), some (.inl s), some (.inl x), some (.inl 0), some (.inl k)]) rfl rfl rfl rfl ?_
              refine r_iinc (pc' := 88) (ls' := [some (.inr (.inr 232)), some (.inl f), some (.inl s), some (.inl x), some (.inl 0), some (.inl (k + 3))]) rfl rfl rfl rfl rfl ?_
              refine r_goto (pc' := 26) rfl rfl ?_
              exact ih26 (0, (k + 3)) (show ((0 ≤ (k + 3) ∧ (k + 3) ≤ 3 * S 232 11) ∧ (k + 3) % 3 = 0) ∧ ((0 : Int) = 0 ∨ (0 : Int) = 1) ∧ ((0 : Int) = 1 → ∀ xx, 0 ≤ xx → 3 * xx < (k + 3) → S 241 (3 * xx) = f → mins x (S 241 (3 * xx + 1)) = S 241 (3 * xx + 2)) ∧ ((0 : Int) = 0 → ¬ (∀ xx, 0 ≤ xx → xx < S 232 11 → S 241 (3 * xx) = f → mins x (S 241 (3 * xx + 1)) = S 241 (3 * xx + 2))) from by exact ⟨by omega, by omega, fun z => absurd z (by omega), fun _ z => by have e := z (k / 3) (by omega) (by omega); rw [show 3 * (k / 3) = k by omega] at e; exact absurd (e (by omega)) (by omega)⟩) (show (3 * S 232 11 - (k + 3)).toNat < (3 * S 232 11 - k).toNat from by omega)
          · refine r_icmp_ne1 (pc' := 78) rfl rfl (by omega) (by omega) ?_
            refine r_const (pc' := 79) rfl rfl ?_
            refine r_goto (pc' := 83) rfl rfl ?_
            refine r_istore (pc' := 85) (ls' := [some (.inr (.inr 232)), some (.inl f), some (.inl s), some (.inl x), some (.inl 1), some (.inl k)]) rfl rfl rfl rfl ?_
            refine r_iinc (pc' := 88) (ls' := [some (.inr (.inr 232)), some (.inl f), some (.inl s), some (.inl x), some (.inl 1), some (.inl (k + 3))]) rfl rfl rfl rfl rfl ?_
            refine r_goto (pc' := 26) rfl rfl ?_
            exact ih26 (1, (k + 3)) (show ((0 ≤ (k + 3) ∧ (k + 3) ≤ 3 * S 232 11) ∧ (k + 3) % 3 = 0) ∧ ((1 : Int) = 0 ∨ (1 : Int) = 1) ∧ ((1 : Int) = 1 → ∀ xx, 0 ≤ xx → 3 * xx < (k + 3) → S 241 (3 * xx) = f → mins x (S 241 (3 * xx + 1)) = S 241 (3 * xx + 2)) ∧ ((1 : Int) = 0 → ¬ (∀ xx, 0 ≤ xx → xx < S 232 11 → S 241 (3 * xx) = f → mins x (S 241 (3 * xx + 1)) = S 241 (3 * xx + 2))) from by exact ⟨by omega, by omega, fun _ y h1 h2 h3 => by
          by_cases hy : 3 * y < k
          · exact i6 (by omega) y h1 hy h3
          · have e : k = 3 * y := by omega
            subst e
            first | omega | (exact absurd h3 (by assumption)) | assumption, fun z => absurd z (by omega)⟩) (show (3 * S 232 11 - (k + 3)).toNat < (3 * S 232 11 - k).toNat from by omega)
      · refine r_icmp_ge1 (pc' := 91) rfl rfl (by omega) (by omega) ?_
        refine r_iload (pc' := 92) rfl rfl rfl ?_
        refine r_iload (pc' := 94) rfl rfl rfl ?_
        by_cases h13 : u = 0
        · refine r_if_eq1 (pc' := 103) rfl rfl (by omega) (by omega) ?_
          refine r_const (pc' := 104) rfl rfl ?_
          refine r_ior (pc' := 105) rfl rfl ?_
          have b14 := mx_or_r s 0
          have e15 := mx_or0 (a := s) (by omega)
          refine r_istore (pc' := 106) (ls' := [some (.inr (.inr 232)), some (.inl f), some (.inl (mx_or s 0)), some (.inl x), some (.inl u), some (.inl k)]) rfl rfl rfl rfl ?_
          refine r_iinc (pc' := 109) (ls' := [some (.inr (.inr 232)), some (.inl f), some (.inl (mx_or s 0)), some (.inl (x + 1)), some (.inl u), some (.inl k)]) rfl rfl rfl rfl rfl ?_
          refine r_goto (pc' := 15) rfl rfl ?_
          refine r_forget [true, true, true, true, false, false] rfl ?_
          exact ih15 ((x + 1), (mx_or s 0)) (show (0 ≤ (x + 1) ∧ (x + 1) ≤ 4) ∧ (0 ≤ (mx_or s 0) ∧ (mx_or s 0) < 16) ∧ ((mx_or s 0) = bs (fun kk => ∀ xx, 0 ≤ xx → xx < S 232 11 → S 241 (3 * xx) = f → mins kk (S 241 (3 * xx + 1)) = S 241 (3 * xx + 2)) (x + 1)) from by exact ⟨by omega, by omega, by rw [mx_or0 (by omega), i2]; exact (bs_f (p := fun kk => ∀ xx, 0 ≤ xx → xx < S 232 11 → S 241 (3 * xx) = f → mins kk (S 241 (3 * xx + 1)) = S 241 (3 * xx + 2)) (k := x) (by omega) (i7 (by omega))).symm⟩) (show (4 - (x + 1)).toNat < (4 - x).toNat from by omega)
        · refine r_if_eq0 (pc' := 97) rfl rfl (by omega) (by omega) ?_
          refine r_const (pc' := 98) rfl rfl ?_
          refine r_iload (pc' := 99) rfl rfl rfl ?_
          refine r_ishl (pc' := 100) rfl rfl ?_
          have b16 := mx_shl_r 1 x
          have e17 := shl_u (k := x) 4 (by omega) (by omega)
          refine r_goto (pc' := 104) rfl rfl ?_
          refine r_ior (pc' := 105) rfl rfl ?_
          have b18 := mx_or_r s (mx_shl 1 x)
          have e19 := or_u (a := s) (b := mx_shl 1 x) 4 (by omega) (by omega) (by omega) (by omega) (by omega)
          refine r_istore (pc' := 106) (ls' := [some (.inr (.inr 232)), some (.inl f), some (.inl (mx_or s (mx_shl 1 x))), some (.inl x), some (.inl u), some (.inl k)]) rfl rfl rfl rfl ?_
          refine r_iinc (pc' := 109) (ls' := [some (.inr (.inr 232)), some (.inl f), some (.inl (mx_or s (mx_shl 1 x))), some (.inl (x + 1)), some (.inl u), some (.inl k)]) rfl rfl rfl rfl rfl ?_
          refine r_goto (pc' := 15) rfl rfl ?_
          refine r_forget [true, true, true, true, false, false] rfl ?_
          exact ih15 ((x + 1), (mx_or s (mx_shl 1 x))) (show (0 ≤ (x + 1) ∧ (x + 1) ≤ 4) ∧ (0 ≤ (mx_or s (mx_shl 1 x)) ∧ (mx_or s (mx_shl 1 x)) < 16) ∧ ((mx_or s (mx_shl 1 x)) = bs (fun kk => ∀ xx, 0 ≤ xx → xx < S 232 11 → S 241 (3 * xx) = f → mins kk (S 241 (3 * xx + 1)) = S 241 (3 * xx + 2)) (x + 1)) from by exact ⟨by omega, by omega, by rw [i2]; exact (bs_t (p := fun kk => ∀ xx, 0 ≤ xx → xx < S 232 11 → S 241 (3 * xx) = f → mins kk (S 241 (3 * xx + 1)) = S 241 (3 * xx + 2)) (k := x) (by omega) (fun y h1 h2 => i6 (by omega) y h1 (by omega))).symm⟩) (show (4 - (x + 1)).toNat < (4 - x).toNat from by omega)
    · refine r_icmp_ge1 (pc' := 112) rfl rfl (by omega) (by omega) ?_
      refine r_iload (pc' := 113) rfl rfl rfl ?_
      refine q_iret rfl rfl rfl ?_
      obtain rfl : x = 4 := by omega
      exact ⟨by rw [if_pos h2, i2], rfl⟩
  · skip
    refine q_callE (pc' := 5) (w := some (.inl 0)) (S2 := S) (st' := [.inl 0]) rfl rfl rfl (bi_neg h2 (c_X11_isField (f := f) (S := S) hB (show -2147483648 ≤ f ∧ f < 2147483648 from by omega))) (by decide) rfl rfl (Nat.le_of_ble_eq_true rfl) (fun _ _ => ⟨_, _, rfl, rfl⟩) rfl rfl ?_
    refine r_if_ne0 (pc' := 8) rfl rfl (by decide) (by decide) ?_
    refine r_const (pc' := 10) rfl rfl ?_
    refine q_iret rfl rfl rfl ?_
    exact ⟨by rw [if_neg h2], rfl⟩
