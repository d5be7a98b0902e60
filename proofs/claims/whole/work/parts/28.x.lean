theorem c_X11_ofTale {t : Int} {S : rS} (hB : Bd S) (h_t : -2147483648 ≤ t ∧ t < 2147483648) : CS 1 108 [.inr (.inr 232), .inl t] S (fun r' S' => r' = some (.inl (bs (fun kk => S 233 (8 + kk) = t) (S 233 0))) ∧ S' = S) := by
  refine RS.beg (ls := [some (.inr (.inr 232)), some (.inl t), none, none]) rfl rfl rfl rfl rfl ?_
  have n0 : 0 ≤ S 233 0 ∧ S 233 0 ≤ 7 := hB 233 0
  refine r_const (pc' := 1) rfl rfl ?_
  refine r_istore (pc' := 2) (ls' := [some (.inr (.inr 232)), some (.inl t), some (.inl 0), none]) rfl rfl rfl rfl ?_
  refine r_const (pc' := 3) rfl rfl ?_
  refine r_istore (pc' := 4) (ls' := [some (.inr (.inr 232)), some (.inl t), some (.inl 0), some (.inl 0)]) rfl rfl rfl rfl ?_
  refine r_while (α := Int × Int) (fun z' => [some (.inr (.inr 232)), some (.inl t), some (.inl z'.2), some (.inl z'.1)]) (fun z' => S) (fun z' => (0 ≤ z'.1 ∧ z'.1 ≤ S 233 0) ∧ (0 ≤ z'.2 ∧ z'.2 < 128) ∧ (z'.2 = bs (fun kk => S 233 (8 + kk) = t) z'.1)) (fun z' => (S 233 0 - z'.1).toNat) ?_ (0, 0) (show (0 ≤ (0 : Int) ∧ (0 : Int) ≤ S 233 0) ∧ (0 ≤ (0 : Int) ∧ (0 : Int) < 128) ∧ ((0 : Int) = bs (fun kk => S 233 (8 + kk) = t) (0 : Int)) from by exact ⟨by omega, by omega, rfl⟩)
  rintro ⟨f, s⟩ hI' ih4
  have hI' : (0 ≤ f ∧ f ≤ S 233 0) ∧ (0 ≤ s ∧ s < 128) ∧ (s = bs (fun kk => S 233 (8 + kk) = t) f) := hI'
  obtain ⟨i1, i3, i2⟩ := hI'
  show RS _ _ _ _ [some (.inr (.inr 232)), some (.inl t), some (.inl s), some (.inl f)] [] S
  have b1 : 0 ≤ S 233 0 ∧ S 233 0 ≤ 7 := hB 233 0
  refine r_iload (pc' := 5) rfl rfl rfl ?_
  refine r_aload (pc' := 6) rfl rfl rfl ?_
  refine r_getr (pc' := 9) (v := 233) rfl rfl rfl rfl rfl ?_
  refine r_const (pc' := 10) rfl rfl ?_
  refine r_aldv (pc' := 11) (v := (S 233 0)) 187 rfl rfl rfl (by omega) rfl ?_
  by_cases h2 : f < (S 233 0)
  · refine r_icmp_ge0 (pc' := 14) rfl rfl (by omega) (by omega) ?_
    refine r_iload (pc' := 15) rfl rfl rfl ?_
    refine r_aload (pc' := 16) rfl rfl rfl ?_
    refine r_getr (pc' := 19) (v := 233) rfl rfl rfl rfl rfl ?_
    refine r_const (pc' := 21) rfl rfl ?_
    refine r_iload (pc' := 22) rfl rfl rfl ?_
    refine r_iadd (pc' := 23) rfl rfl ?_
    refine r_aldv (pc' := 24) (v := (S 233 (8 + f))) 187 rfl rfl rfl (by omega) rfl ?_
    have b3 := bdc_233_8 hB f
    refine r_iload (pc' := 25) rfl rfl rfl ?_
    by_cases h4 : (S 233 (8 + f)) = t
    · refine r_icmp_ne0 (pc' := 28) rfl rfl (by omega) (by omega) ?_
      refine r_const (pc' := 29) rfl rfl ?_
      refine r_iload (pc' := 30) rfl rfl rfl ?_
      refine r_ishl (pc' := 31) rfl rfl ?_
      have b5 := mx_shl_r 1 f
      have e6 := shl_u (k := f) 7 (by omega) (by omega)
      refine r_goto (pc' := 35) rfl rfl ?_
      refine r_ior (pc' := 36) rfl rfl ?_
      have b7 := mx_or_r s (mx_shl 1 f)
      have e8 := or_u (a := s) (b := mx_shl 1 f) 7 (by omega) (by omega) (by omega) (by omega) (by omega)
      refine r_istore (pc' := 37) (ls' := [some (.inr (.inr 232)), some (.inl t), some (.inl (mx_or s (mx_shl 1 f))), some (.inl f)]) rfl rfl rfl rfl ?_
      refine r_iinc (pc' := 40) (ls' := [some (.inr (.inr 232)), some (.inl t), some (.inl (mx_or s (mx_shl 1 f))), some (.inl (f + 1))]) rfl rfl rfl rfl rfl ?_
      refine r_goto (pc' := 4) rfl rfl ?_
      exact ih4 ((f + 1), (mx_or s (mx_shl 1 f))) (show (0 ≤ (f + 1) ∧ (f + 1) ≤ S 233 0) ∧ (0 ≤ (mx_or s (mx_shl 1 f)) ∧ (mx_or s (mx_shl 1 f)) < 128) ∧ ((mx_or s (mx_shl 1 f)) = bs (fun kk => S 233 (8 + kk) = t) (f + 1)) from by exact ⟨by omega, by omega, by rw [i2]; exact (bs_t (p := fun kk => S 233 (8 + kk) = t) (k := f) (by omega) h4).symm⟩) (show (S 233 0 - (f + 1)).toNat < (S 233 0 - f).toNat from by omega)
    · refine r_icmp_ne1 (pc' := 34) rfl rfl (by omega) (by omega) ?_
      refine r_const (pc' := 35) rfl rfl ?_
      refine r_ior (pc' := 36) rfl rfl ?_
      have b9 := mx_or_r s 0
      have e10 := mx_or0 (a := s) (by omega)
      refine r_istore (pc' := 37) (ls' := [some (.inr (.inr 232)), some (.inl t), some (.inl (mx_or s 0)), some (.inl f)]) rfl rfl rfl rfl ?_
      refine r_iinc (pc' := 40) (ls' := [some (.inr (.inr 232)), some (.inl t), some (.inl (mx_or s 0)), some (.inl (f + 1))]) rfl rfl rfl rfl rfl ?_
      refine r_goto (pc' := 4) rfl rfl ?_
      exact ih4 ((f + 1), (mx_or s 0)) (show (0 ≤ (f + 1) ∧ (f + 1) ≤ S 233 0) ∧ (0 ≤ (mx_or s 0) ∧ (mx_or s 0) < 128) ∧ ((mx_or s 0) = bs (fun kk => S 233 (8 + kk) = t) (f + 1)) from by exact ⟨by omega, by omega, by rw [mx_or0 (by omega), i2]; exact (bs_f (p := fun kk => S 233 (8 + kk) = t) (k := f) (by omega) h4).symm⟩) (show (S 233 0 - (f + 1)).toNat < (S 233 0 - f).toNat from by omega)
  · refine r_icmp_ge1 (pc' := 43) rfl rfl (by omega) (by omega) ?_
    refine r_iload (pc' := 44) rfl rfl rfl ?_
    refine q_iret rfl rfl rfl ?_
    obtain rfl : f = S 233 0 := by omega
    exact ⟨by rw [i2], rfl⟩
/-- a field of a tale more, as the reference has it: from, sum -/
def wsM (S : rS) (g c : Int) : Int → Int × Int → Int × Int := fun kk z => if tb g kk then if S 233 (15 + kk) = c then (kk, z.2 + (S 235 (7 * z.1 + kk) + (if S 233 (1 + kk) ≠ 1 ∨ S 236 10 < 5 then mins (S 233 (1 + kk)) (pop (S 236 (0 + kk))) else 1000000))) else z else z
def whM (S : rS) (g s0 : Int) : Int × Int := fo (fun c z => fo (wsM S g (c + 1)) z (S 233 0).toNat) (S 236 11, s0) 9
noncomputable def wMo (S : rS) (t : Int) : Int := (whM S (bs (fun kk => S 233 (8 + kk) = t) (S 233 0)) (if bs (fun kk => S 233 (8 + kk) = t) (S 233 0) = 0 then 1000000 else 0)).2
theorem wsM_m {S : rS} (hB : Bd S) {g c y : Int} {z : Int × Int} (h : (0 ≤ z.2 ∧ z.2 ≤ y) ∧ 0 ≤ z.1 ∧ z.1 < 7) {k : Int} (hk : 0 ≤ k ∧ k < 7) : (0 ≤ (wsM S g c k z).2 ∧ (wsM S g c k z).2 ≤ y + 2000000) ∧ 0 ≤ (wsM S g c k z).1 ∧ (wsM S g c k z).1 < 7 := by
  have q1 : 0 ≤ S 235 (7 * z.1 + k) ∧ S 235 (7 * z.1 + k) ≤ 1000000 := hB 235 _
  have q3 := mM_r hB hk
  unfold wsM
  split
  · split
    · split
      · show (0 ≤ z.2 + _ ∧ z.2 + _ ≤ _) ∧ 0 ≤ k ∧ k < 7; omega
      · show (0 ≤ z.2 + _ ∧ z.2 + _ ≤ _) ∧ 0 ≤ k ∧ k < 7; omega
    · omega
  · omega
theorem whM_m {S : rS} (hB : Bd S) (g : Int) {s0 : Int} (h0 : 0 ≤ s0 ∧ s0 ≤ 1000000) : 0 ≤ (whM S g s0).2 ∧ (whM S g s0).2 ≤ 127000000 := by
  have b : 0 ≤ S 233 0 ∧ S 233 0 ≤ 7 := hB 233 0
  have b4 : 0 ≤ S 236 11 ∧ S 236 11 ≤ 6 := hB 236 11
  have inner : ∀ (c y : Int) (z : Int × Int), (0 ≤ z.2 ∧ z.2 ≤ y) ∧ 0 ≤ z.1 ∧ z.1 < 7 → (0 ≤ (fo (wsM S g c) z (S 233 0).toNat).2 ∧ (fo (wsM S g c) z (S 233 0).toNat).2 ≤ y + 14000000) ∧ 0 ≤ (fo (wsM S g c) z (S 233 0).toNat).1 ∧ (fo (wsM S g c) z (S 233 0).toNat).1 < 7 := by
    intro c y z hz
    have := fo_ind (f := wsM S g c) (a := z) (fun k z => (0 ≤ z.2 ∧ z.2 ≤ y + 2000000 * k) ∧ 0 ≤ z.1 ∧ z.1 < 7) (by omega) (N := (S 233 0).toNat) (fun k s h0 h1 hs => by
      have q := wsM_m hB (g := g) (c := c) (z := s) (y := y + 2000000 * k) hs (k := k) (by omega)
      omega) (S 233 0).toNat (Nat.le_refl _)
    have e : (((S 233 0).toNat : Nat) : Int) = S 233 0 := Int.toNat_of_nonneg b.1
    rw [e] at this
    omega
  have := fo_ind (f := fun c z => fo (wsM S g (c + 1)) z (S 233 0).toNat) (a := (S 236 11, s0)) (fun k z => (0 ≤ z.2 ∧ z.2 ≤ 1000000 + 14000000 * k) ∧ 0 ≤ z.1 ∧ z.1 < 7) (by show (0 ≤ s0 ∧ s0 ≤ _) ∧ 0 ≤ S 236 11 ∧ S 236 11 < 7; omega) (N := 9) (fun k s h0 h1 hs => by
      have q := inner (k + 1) (1000000 + 14000000 * k) s hs
      omega) 9 (Nat.le_refl _)
  have := this.1
  exact ⟨this.1, Int.le_trans this.2 (by decide)⟩
theorem wMo_r {S : rS} (hB : Bd S) (t : Int) : 0 ≤ wMo S t ∧ wMo S t ≤ 127000000 := whM_m hB _ (by split <;> omega)
theorem c_X11_wholeOf {t : Int} {S : rS} (hB : Bd S) (h_t : -2147483648 ≤ t ∧ t < 2147483648) : CS 3 130 [.inr (.inr 232), .inl t] S (fun r' S' => r' = some (.inl (wMo S t)) ∧ S' = S) := by
  refine RS.beg (ls := [some (.inr (.inr 232)), some (.inl t), none, none, none, none, none]) rfl rfl rfl rfl rfl ?_
  have n0 : 0 ≤ S 233 0 ∧ S 233 0 ≤ 7 := hB 233 0
  have s7 : 0 ≤ S 236 7 ∧ S 236 7 ≤ 99 := hB 236 7
  have s8 : 0 ≤ S 236 8 ∧ S 236 8 ≤ 999 := hB 236 8
  have s9 : 0 ≤ S 236 9 ∧ S 236 9 ≤ 127 := hB 236 9
  have s10 : 0 ≤ S 236 10 ∧ S 236 10 ≤ 9 := hB 236 10
  have s11 : 0 ≤ S 236 11 ∧ S 236 11 ≤ 6 := hB 236 11
  have dk : 0 ≤ S 233 186 ∧ S 233 186 ≤ 99 := hB 233 186
  refine r_aload (pc' := 1) rfl rfl rfl ?_
  refine r_iload (pc' := 2) rfl rfl rfl ?_
  have b1 : 0 ≤ S 233 0 ∧ S 233 0 ≤ 7 := hB 233 0
  refine q_callE (pc' := 5) (w := some (.inl (bs (fun kk => S 233 (8 + kk) = t) (S 233 0)))) (S2 := S) (st' := [.inl (bs (fun kk => S 233 (8 + kk) = t) (S 233 0))]) rfl rfl rfl (c_X11_ofTale (t := t) (S := S) hB (show -2147483648 ≤ t ∧ t < 2147483648 from by omega)) (by decide) rfl rfl (Nat.le_of_ble_eq_true rfl) (fun _ _ => ⟨_, _, rfl, rfl⟩) rfl rfl ?_
  have b2 : 0 ≤ (bs (fun kk => S 233 (8 + kk) = t) (S 233 0)) ∧ (bs (fun kk => S 233 (8 + kk) = t) (S 233 0)) < 128 := bs7 (by have q : 0 ≤ S 233 0 ∧ S 233 0 ≤ 7 := hB 233 0; omega)
  refine r_istore (pc' := 6) (ls' := [some (.inr (.inr 232)), some (.inl t), some (.inl (bs (fun kk => S 233 (8 + kk) = t) (S 233 0))), none, none, none, none]) rfl rfl rfl rfl ?_
  refine r_iload (pc' := 7) rfl rfl rfl ?_
  by_cases h3 : (bs (fun kk => S 233 (8 + kk) = t) (S 233 0)) = 0
  · refine r_if_ne0 (pc' := 10) rfl rfl (by omega) (by omega) ?_
    refine r_const (pc' := 12) rfl rfl ?_
    refine r_goto (pc' := 16) rfl rfl ?_
    refine r_istore (pc' := 17) (ls' := [some (.inr (.inr 232)), some (.inl t), some (.inl (bs (fun kk => S 233 (8 + kk) = t) (S 233 0))), some (.inl 1000000), none, none, none]) rfl rfl rfl rfl ?_
    refine r_aload (pc' := 18) rfl rfl rfl ?_
    refine r_getr (pc' := 21) (v := 236) rfl rfl rfl rfl rfl ?_
    refine r_const (pc' := 23) rfl rfl ?_
    refine r_aldv (pc' := 24) (v := (S 236 11)) 12 rfl rfl rfl (by omega) rfl ?_
    have b4 : 0 ≤ S 236 11 ∧ S 236 11 ≤ 6 := hB 236 11
    refine r_istore (pc' := 26) (ls' := [some (.inr (.inr 232)), some (.inl t), some (.inl (bs (fun kk => S 233 (8 + kk) = t) (S 233 0))), some (.inl 1000000), some (.inl (S 236 11)), none, none]) rfl rfl rfl rfl ?_
    refine r_const (pc' := 27) rfl rfl ?_
    refine r_istore (pc' := 29) (ls' := [some (.inr (.inr 232)), some (.inl t), some (.inl (bs (fun kk => S 233 (8 + kk) = t) (S 233 0))), some (.inl 1000000), some (.inl (S 236 11)), some (.inl 1), none]) rfl rfl rfl rfl ?_
    refine r_while (α := Int × Int × Int) (fun z' => [some (.inr (.inr 232)), some (.inl t), some (.inl (bs (fun kk => S 233 (8 + kk) = t) (S 233 0))), some (.inl z'.1), some (.inl z'.2.1), some (.inl z'.2.2), none]) (fun z' => S) (fun z' => (1 ≤ z'.2.2 ∧ z'.2.2 ≤ 10) ∧ (0 ≤ z'.2.1 ∧ z'.2.1 < 7) ∧ (fo (fun cc z => fo (wsM S (bs (fun kk => S 233 (8 + kk) = t) (S 233 0)) (cc + 1)) z (S 233 0).toNat) (S 236 11, (1000000 : Int)) (z'.2.2 - 1).toNat = (z'.2.1, z'.1))) (fun z' => (10 - z'.2.2).toNat) ?_ (1000000, (S 236 11), 1) (show (1 ≤ (1 : Int) ∧ (1 : Int) ≤ 10) ∧ (0 ≤ (S 236 11) ∧ (S 236 11) < 7) ∧ (fo (fun cc z => fo (wsM S (bs (fun kk => S 233 (8 + kk) = t) (S 233 0)) (cc + 1)) z (S 233 0).toNat) (S 236 11, (1000000 : Int)) ((1 : Int) - 1).toNat = ((S 236 11), (1000000 : Int))) from by exact ⟨by omega, by omega, rfl⟩)
    rintro ⟨s, a, c⟩ hI' ih29
    have hI' : (1 ≤ c ∧ c ≤ 10) ∧ (0 ≤ a ∧ a < 7) ∧ (fo (fun cc z => fo (wsM S (bs (fun kk => S 233 (8 + kk) = t) (S 233 0)) (cc + 1)) z (S 233 0).toNat) (S 236 11, (1000000 : Int)) (c - 1).toNat = (a, s)) := hI'
    obtain ⟨i1, i3, i2⟩ := hI'
    show RS _ _ _ _ [some (.inr (.inr 232)), some (.inl t), some (.inl (bs (fun kk => S 233 (8 + kk) = t) (S 233 0))), some (.inl s), some (.inl a), some (.inl c), none] [] S
    refine r_iload (pc' := 31) rfl rfl rfl ?_
    refine r_const (pc' := 33) rfl rfl ?_
    by_cases h5 : c < 10
    · refine r_icmp_ge0 (pc' := 36) rfl rfl (by omega) (by omega) ?_
      refine r_const (pc' := 37) rfl rfl ?_
      refine r_istore (pc' := 39) (ls' := [some (.inr (.inr 232)), some (.inl t), some (.inl (bs (fun kk => S 233 (8 + kk) = t) (S 233 0))), some (.inl s), some (.inl a), some (.inl c), some (.inl 0)]) rfl rfl rfl rfl ?_
      refine r_while (α := Int × Int × Int) (fun z' => [some (.inr (.inr 232)), some (.inl t), some (.inl (bs (fun kk => S 233 (8 + kk) = t) (S 233 0))), some (.inl z'.1), some (.inl z'.2.1), some (.inl c), some (.inl z'.2.2)]) (fun z' => S) (fun z' => (0 ≤ z'.2.2 ∧ z'.2.2 ≤ S 233 0) ∧ (0 ≤ z'.2.1 ∧ z'.2.1 < 7) ∧ (fo (wsM S (bs (fun kk => S 233 (8 + kk) = t) (S 233 0)) (c - 1 + 1)) (a, s) (z'.2.2).toNat = (z'.2.1, z'.1))) (fun z' => (S 233 0 - z'.2.2).toNat) ?_ (s, a, 0) (show (0 ≤ (0 : Int) ∧ (0 : Int) ≤ S 233 0) ∧ (0 ≤ a ∧ a < 7) ∧ (fo (wsM S (bs (fun kk => S 233 (8 + kk) = t) (S 233 0)) (c - 1 + 1)) (a, s) (0 : Int).toNat = (a, s)) from by exact ⟨by omega, by omega, rfl⟩)
      rintro ⟨y, b, f⟩ hI' ih39
      have hI' : (0 ≤ f ∧ f ≤ S 233 0) ∧ (0 ≤ b ∧ b < 7) ∧ (fo (wsM S (bs (fun kk => S 233 (8 + kk) = t) (S 233 0)) (c - 1 + 1)) (a, s) f.toNat = (b, y)) := hI'
      obtain ⟨i4, i5, i6⟩ := hI'
      show RS _ _ _ _ [some (.inr (.inr 232)), some (.inl t), some (.inl (bs (fun kk => S 233 (8 + kk) = t) (S 233 0))), some (.inl y), some (.inl b), some (.inl c), some (.inl f)] [] S
      refine r_iload (pc' := 41) rfl rfl rfl ?_
      refine r_aload (pc' := 42) rfl rfl rfl ?_
      refine r_getr (pc' := 45) (v := 233) rfl rfl rfl rfl rfl ?_
      refine r_const (pc' := 46) rfl rfl ?_
      refine r_aldv (pc' := 47) (v := (S 233 0)) 187 rfl rfl rfl (by omega) rfl ?_
      by_cases h6 : f < (S 233 0)
      · refine r_icmp_ge0 (pc' := 50) rfl rfl (by omega) (by omega) ?_
        refine r_iload (pc' := 51) rfl rfl rfl ?_
        refine r_iload (pc' := 53) rfl rfl rfl ?_
        by_cases h7 : tb (bs (fun kk => S 233 (8 + kk) = t) (S 233 0)) f
        · skip
          refine q_callE (pc' := 56) (w := some (.inl 1)) (S2 := S) (st' := [.inl 1]) rfl rfl rfl (bi_pos h7 (c_X11_has (s := (bs (fun kk => S 233 (8 + kk) = t) (S 233 0))) (q := f) (S := S)  (show -2147483648 ≤ (bs (fun kk => S 233 (8 + kk) = t) (S 233 0)) ∧ (bs (fun kk => S 233 (8 + kk) = t) (S 233 0)) < 2147483648 from by omega) (show 0 ≤ f ∧ f < 32 from by omega))) (by decide) rfl rfl (Nat.le_of_ble_eq_true rfl) (fun q => absurd rfl q) rfl rfl ?_
          refine r_if_eq0 (pc' := 59) rfl rfl (by decide) (by decide) ?_
          refine r_aload (pc' := 60) rfl rfl rfl ?_
          refine r_getr (pc' := 63) (v := 233) rfl rfl rfl rfl rfl ?_
          refine r_const (pc' := 65) rfl rfl ?_
          refine r_iload (pc' := 67) rfl rfl rfl ?_
          refine r_iadd (pc' := 68) rfl rfl ?_
          refine r_aldv (pc' := 69) (v := (S 233 (15 + f))) 187 rfl rfl rfl (by omega) rfl ?_
          have b8 := bdc_233_15 hB f
          refine r_iload (pc' := 71) rfl rfl rfl ?_
          by_cases h9 : (S 233 (15 + f)) = c
          · refine r_icmp_ne0 (pc' := 74) rfl rfl (by omega) (by omega) ?_
            refine r_iload (pc' := 75) rfl rfl rfl ?_
            refine r_aload (pc' := 76) rfl rfl rfl ?_
            refine r_getr (pc' := 79) (v := 235) rfl rfl rfl rfl rfl ?_
            refine r_const (pc' := 81) rfl rfl ?_
            refine r_iload (pc' := 83) rfl rfl rfl ?_
            refine r_imul (pc' := 84) rfl rfl ?_
            refine r_iload (pc' := 86) rfl rfl rfl ?_
            refine r_iadd (pc' := 87) rfl rfl ?_
            refine r_aldv (pc' := 88) (v := (S 235 ((7 * b) + f))) 49 rfl rfl rfl (by omega) rfl ?_
            have b10 : 0 ≤ S 235 ((7 * b) + f) ∧ S 235 ((7 * b) + f) ≤ 1000000 := hB 235 ((7 * b) + f)
            refine r_aload (pc' := 89) rfl rfl rfl ?_
            refine r_iload (pc' := 91) rfl rfl rfl ?_
            have b11 := bdc_233_1 hB f
            have b12 : 0 ≤ S 236 10 ∧ S 236 10 ≤ 9 := hB 236 10
            by_cases h13 : S 233 (1 + f) ≠ 1 ∨ S 236 10 < 5
            · skip
              refine q_callE (pc' := 94) (w := some (.inl 1)) (S2 := S) (st' := [.inl 1, .inl (S 235 ((7 * b) + f)), .inl y]) rfl rfl rfl (bi_pos h13 (c_X11_mayRead (f := f) (S := S) hB (show 0 ≤ f ∧ f < 7 from by omega))) (by decide) rfl rfl (Nat.le_of_ble_eq_true rfl) (fun _ _ => ⟨_, _, rfl, rfl⟩) rfl rfl ?_
              refine r_if_eq0 (pc' := 97) rfl rfl (by decide) (by decide) ?_
              refine r_aload (pc' := 98) rfl rfl rfl ?_
              refine r_iload (pc' := 100) rfl rfl rfl ?_
              have b14 := bdc_236_0 hB f
              refine q_callE (pc' := 103) (w := some (.inl (mins (S 233 (1 + f)) (pop (S 236 (0 + f)))))) (S2 := S) (st' := [.inl (mins (S 233 (1 + f)) (pop (S 236 (0 + f)))), .inl (S 235 ((7 * b) + f)), .inl y]) rfl rfl rfl (c_X11_minutesAt (f := f) (S := S) hB (show 0 ≤ f ∧ f < 7 from by omega)) (by decide) rfl rfl (Nat.le_of_ble_eq_true rfl) (fun _ _ => ⟨_, _, rfl, rfl⟩) rfl rfl ?_
              have b15 : 0 ≤ (mins (S 233 (1 + f)) (pop (S 236 (0 + f)))) ∧ (mins (S 233 (1 + f)) (pop (S 236 (0 + f)))) ≤ 34 := mM_r hB (by omega)
              refine r_goto (pc' := 108) rfl rfl ?_
              refine r_iadd (pc' := 109) rfl rfl ?_
              refine r_iadd (pc' := 110) rfl rfl ?_
              refine r_istore (pc' := 111) (ls' := [some (.inr (.inr 232)), some (.inl t), some (.inl (bs (fun kk => S 233 (8 + kk) = t) (S 233 0))), some (.inl (y + ((S 235 ((7 * b) + f)) + (mins (S 233 (1 + f)) (pop (S 236 (0 + f))))))), some (.inl b), some (.inl c), some (.inl f)]) rfl rfl rfl rfl ?_
              refine r_iload (pc' := 113) rfl rfl rfl ?_
              refine r_istore (pc' := 115) (ls' := [some (.inr (.inr 232)), some (.inl t), some (.inl (bs (fun kk => S 233 (8 + kk) = t) (S 233 0))), some (.inl (y + ((S 235 ((7 * b) + f)) + (mins (S 233 (1 + f)) (pop (S 236 (0 + f))))))), some (.inl f), some (.inl c), some (.inl f)]) rfl rfl rfl rfl ?_
              refine r_iinc (pc' := 118) (ls' := [some (.inr (.inr 232)), some (.inl t), some (.inl (bs (fun kk => S 233 (8 + kk) = t) (S 233 0))), some (.inl (y + ((S 235 ((7 * b) + f)) + (mins (S 233 (1 + f)) (pop (S 236 (0 + f))))))), some (.inl f), some (.inl c), some (.inl (f + 1))]) rfl rfl rfl rfl rfl ?_
              refine r_goto (pc' := 39) rfl rfl ?_
              exact ih39 ((y + ((S 235 ((7 * b) + f)) + (mins (S 233 (1 + f)) (pop (S 236 (0 + f)))))), f, (f + 1)) (show (0 ≤ (f + 1) ∧ (f + 1) ≤ S 233 0) ∧ (0 ≤ f ∧ f < 7) ∧ (fo (wsM S (bs (fun kk => S 233 (8 + kk) = t) (S 233 0)) (c - 1 + 1)) (a, s) (f + 1).toNat = (f, (y + ((S 235 ((7 * b) + f)) + (mins (S 233 (1 + f)) (pop (S 236 (0 + f)))))))) from by exact ⟨by omega, by omega, by rw [fo_s (by omega), i6]; exact (if_pos h7).trans ((if_pos (by omega)).trans (congrArg (fun z => (f, y + (S 235 (7 * b + f) + z))) (if_pos h13)))⟩) (show (S 233 0 - (f + 1)).toNat < (S 233 0 - f).toNat from by omega)
            · skip
              refine q_callE (pc' := 94) (w := some (.inl 0)) (S2 := S) (st' := [.inl 0, .inl (S 235 ((7 * b) + f)), .inl y]) rfl rfl rfl (bi_neg h13 (c_X11_mayRead (f := f) (S := S) hB (show 0 ≤ f ∧ f < 7 from by omega))) (by decide) rfl rfl (Nat.le_of_ble_eq_true rfl) (fun _ _ => ⟨_, _, rfl, rfl⟩) rfl rfl ?_
              refine r_if_eq1 (pc' := 106) rfl rfl (by decide) (by decide) ?_
              refine r_const (pc' := 108) rfl rfl ?_
              refine r_iadd (pc' := 109) rfl rfl ?_
              refine r_iadd (pc' := 110) rfl rfl ?_
              refine r_istore (pc' := 111) (ls' := [some (.inr (.inr 232)), some (.inl t), some (.inl (bs (fun kk => S 233 (8 + kk) = t) (S 233 0))), some (.inl (y + ((S 235 ((7 * b) + f)) + 1000000))), some (.inl b), some (.inl c), some (.inl f)]) rfl rfl rfl rfl ?_
              refine r_iload (pc' := 113) rfl rfl rfl ?_
              refine r_istore (pc' := 115) (ls' := [some (.inr (.inr 232)), some (.inl t), some (.inl (bs (fun kk => S 233 (8 + kk) = t) (S 233 0))), some (.inl (y + ((S 235 ((7 * b) + f)) + 1000000))), some (.inl f), some (.inl c), some (.inl f)]) rfl rfl rfl rfl ?_
              refine r_iinc (pc' := 118) (ls' := [some (.inr (.inr 232)), some (.inl t), some (.inl (bs (fun kk => S 233 (8 + kk) = t) (S 233 0))), some (.inl (y + ((S 235 ((7 * b) + f)) + 1000000))), some (.inl f), some (.inl c), some (.inl (f + 1))]) rfl rfl rfl rfl rfl ?_
              refine r_goto (pc' := 39) rfl rfl ?_
              exact ih39 ((y + ((S 235 ((7 * b) + f)) + 1000000)), f, (f + 1)) (show (0 ≤ (f + 1) ∧ (f + 1) ≤ S 233 0) ∧ (0 ≤ f ∧ f < 7) ∧ (fo (wsM S (bs (fun kk => S 233 (8 + kk) = t) (S 233 0)) (c - 1 + 1)) (a, s) (f + 1).toNat = (f, (y + ((S 235 ((7 * b) + f)) + 1000000)))) from by exact ⟨by omega, by omega, by rw [fo_s (by omega), i6]; exact (if_pos h7).trans ((if_pos (by omega)).trans (congrArg (fun z => (f, y + (S 235 (7 * b + f) + z))) (if_neg h13)))⟩) (show (S 233 0 - (f + 1)).toNat < (S 233 0 - f).toNat from by omega)
          · refine r_icmp_ne1 (pc' := 115) rfl rfl (by omega) (by omega) ?_
            refine r_iinc (pc' := 118) (ls' := [some (.inr (.inr 232)), some (.inl t), some (.inl (bs (fun kk => S 233 (8 + kk) = t) (S 233 0))), some (.inl y), some (.inl b), some (.inl c), some (.inl (f + 1))]) rfl rfl rfl rfl rfl ?_
            refine r_goto (pc' := 39) rfl rfl ?_
            exact ih39 (y, b, (f + 1)) (show (0 ≤ (f + 1) ∧ (f + 1) ≤ S 233 0) ∧ (0 ≤ b ∧ b < 7) ∧ (fo (wsM S (bs (fun kk => S 233 (8 + kk) = t) (S 233 0)) (c - 1 + 1)) (a, s) (f + 1).toNat = (b, y)) from by exact ⟨by omega, by omega, by rw [fo_s (by omega), i6]; exact (if_pos h7).trans (if_neg (by omega))⟩) (show (S 233 0 - (f + 1)).toNat < (S 233 0 - f).toNat from by omega)
        · skip
          refine q_callE (pc' := 56) (w := some (.inl 0)) (S2 := S) (st' := [.inl 0]) rfl rfl rfl (bi_neg h7 (c_X11_has (s := (bs (fun kk => S 233 (8 + kk) = t) (S 233 0))) (q := f) (S := S)  (show -2147483648 ≤ (bs (fun kk => S 233 (8 + kk) = t) (S 233 0)) ∧ (bs (fun kk => S 233 (8 + kk) = t) (S 233 0)) < 2147483648 from by omega) (show 0 ≤ f ∧ f < 32 from by omega))) (by decide) rfl rfl (Nat.le_of_ble_eq_true rfl) (fun q => absurd rfl q) rfl rfl ?_
          refine r_if_eq1 (pc' := 115) rfl rfl (by decide) (by decide) ?_
          refine r_iinc (pc' := 118) (ls' := [some (.inr (.inr 232)), some (.inl t), some (.inl (bs (fun kk => S 233 (8 + kk) = t) (S 233 0))), some (.inl y), some (.inl b), some (.inl c), some (.inl (f + 1))]) rfl rfl rfl rfl rfl ?_
          refine r_goto (pc' := 39) rfl rfl ?_
          exact ih39 (y, b, (f + 1)) (show (0 ≤ (f + 1) ∧ (f + 1) ≤ S 233 0) ∧ (0 ≤ b ∧ b < 7) ∧ (fo (wsM S (bs (fun kk => S 233 (8 + kk) = t) (S 233 0)) (c - 1 + 1)) (a, s) (f + 1).toNat = (b, y)) from by exact ⟨by omega, by omega, by rw [fo_s (by omega), i6]; exact if_neg h7⟩) (show (S 233 0 - (f + 1)).toNat < (S 233 0 - f).toNat from by omega)
      · refine r_icmp_ge1 (pc' := 121) rfl rfl (by omega) (by omega) ?_
        refine r_iinc (pc' := 124) (ls' := [some (.inr (.inr 232)), some (.inl t), some (.inl (bs (fun kk => S 233 (8 + kk) = t) (S 233 0))), some (.inl y), some (.inl b), some (.inl (c + 1)), some (.inl f)]) rfl rfl rfl rfl rfl ?_
        refine r_goto (pc' := 29) rfl rfl ?_
        refine r_forget [true, true, true, true, true, true, false] rfl ?_
        exact ih29 (y, b, (c + 1)) (show (1 ≤ (c + 1) ∧ (c + 1) ≤ 10) ∧ (0 ≤ b ∧ b < 7) ∧ (fo (fun cc z => fo (wsM S (bs (fun kk => S 233 (8 + kk) = t) (S 233 0)) (cc + 1)) z (S 233 0).toNat) (S 236 11, (1000000 : Int)) ((c + 1) - 1).toNat = (b, y)) from by exact ⟨by omega, by omega, by rw [show c + 1 - 1 = c - 1 + 1 by omega, fo_s (by omega), i2]; exact (congrArg (fo _ _) (show (S 233 0).toNat = f.toNat by omega)).trans i6⟩) (show (10 - (c + 1)).toNat < (10 - c).toNat from by omega)
    · refine r_icmp_ge1 (pc' := 127) rfl rfl (by omega) (by omega) ?_
      refine r_iload (pc' := 128) rfl rfl rfl ?_
      refine q_iret rfl rfl rfl ?_
      have e : (9 : Nat) = (c - 1).toNat := by omega
      exact ⟨by unfold wMo whM; rw [if_pos h3, e, i2], rfl⟩
  · refine r_if_ne1 (pc' := 15) rfl rfl (by omega) (by omega) ?_
    refine r_const (pc' := 16) rfl rfl ?_
    refine r_istore (pc' := 17) (ls' := [some (.inr (.inr 232)), some (.inl t), some (.inl (bs (fun kk => S 233 (8 + kk) = t) (S 233 0))), some (.inl 0), none, none, none]) rfl rfl rfl rfl ?_
    refine r_aload (pc' := 18) rfl rfl rfl ?_
    refine r_getr (pc' := 21) (v := 236) rfl rfl rfl rfl rfl ?_
    refine r_const (pc' := 23) rfl rfl ?_
    refine r_aldv (pc' := 24) (v := (S 236 11)) 12 rfl rfl rfl (by omega) rfl ?_
    have b16 : 0 ≤ S 236 11 ∧ S 236 11 ≤ 6 := hB 236 11
    refine r_istore (pc' := 26) (ls' := [some (.inr (.inr 232)), some (.inl t), some (.inl (bs (fun kk => S 233 (8 + kk) = t) (S 233 0))), some (.inl 0), some (.inl (S 236 11)), none, none]) rfl rfl rfl rfl ?_
    refine r_const (pc' := 27) rfl rfl ?_
    refine r_istore (pc' := 29) (ls' := [some (.inr (.inr 232)), some (.inl t), some (.inl (bs (fun kk => S 233 (8 + kk) = t) (S 233 0))), some (.inl 0), some (.inl (S 236 11)), some (.inl 1), none]) rfl rfl rfl rfl ?_
    refine r_while (α := Int × Int × Int) (fun z' => [some (.inr (.inr 232)), some (.inl t), some (.inl (bs (fun kk => S 233 (8 + kk) = t) (S 233 0))), some (.inl z'.1), some (.inl z'.2.1), some (.inl z'.2.2), none]) (fun z' => S) (fun z' => (1 ≤ z'.2.2 ∧ z'.2.2 ≤ 10) ∧ (0 ≤ z'.2.1 ∧ z'.2.1 < 7) ∧ (fo (fun cc z => fo (wsM S (bs (fun kk => S 233 (8 + kk) = t) (S 233 0)) (cc + 1)) z (S 233 0).toNat) (S 236 11, (0 : Int)) (z'.2.2 - 1).toNat = (z'.2.1, z'.1))) (fun z' => (10 - z'.2.2).toNat) ?_ (0, (S 236 11), 1) (show (1 ≤ (1 : Int) ∧ (1 : Int) ≤ 10) ∧ (0 ≤ (S 236 11) ∧ (S 236 11) < 7) ∧ (fo (fun cc z => fo (wsM S (bs (fun kk => S 233 (8 + kk) = t) (S 233 0)) (cc + 1)) z (S 233 0).toNat) (S 236 11, (0 : Int)) ((1 : Int) - 1).toNat = ((S 236 11), (0 : Int))) from by exact ⟨by omega, by omega, rfl⟩)
    rintro ⟨s, a, c⟩ hI' ih29
    have hI' : (1 ≤ c ∧ c ≤ 10) ∧ (0 ≤ a ∧ a < 7) ∧ (fo (fun cc z => fo (wsM S (bs (fun kk => S 233 (8 + kk) = t) (S 233 0)) (cc + 1)) z (S 233 0).toNat) (S 236 11, (0 : Int)) (c - 1).toNat = (a, s)) := hI'
    obtain ⟨i1, i3, i2⟩ := hI'
    show RS _ _ _ _ [some (.inr (.inr 232)), some (.inl t), some (.inl (bs (fun kk => S 233 (8 + kk) = t) (S 233 0))), some (.inl s), some (.inl a), some (.inl c), none] [] S
    refine r_iload (pc' := 31) rfl rfl rfl ?_
    refine r_const (pc' := 33) rfl rfl ?_
    by_cases h17 : c < 10
    · refine r_icmp_ge0 (pc' := 36) rfl rfl (by omega) (by omega) ?_
      refine r_const (pc' := 37) rfl rfl ?_
      refine r_istore (pc' := 39) (ls' := [some (.inr (.inr 232)), some (.inl t), some (.inl (bs (fun kk => S 233 (8 + kk) = t) (S 233 0))), some (.inl s), some (.inl a), some (.inl c), some (.inl 0)]) rfl rfl rfl rfl ?_
      refine r_while (α := Int × Int × Int) (fun z' => [some (.inr (.inr 232)), some (.inl t), some (.inl (bs (fun kk => S 233 (8 + kk) = t) (S 233 0))), some (.inl z'.1), some (.inl z'.2.1), some (.inl c), some (.inl z'.2.2)]) (fun z' => S) (fun z' => (0 ≤ z'.2.2 ∧ z'.2.2 ≤ S 233 0) ∧ (0 ≤ z'.2.1 ∧ z'.2.1 < 7) ∧ (fo (wsM S (bs (fun kk => S 233 (8 + kk) = t) (S 233 0)) (c - 1 + 1)) (a, s) (z'.2.2).toNat = (z'.2.1, z'.1))) (fun z' => (S 233 0 - z'.2.2).toNat) ?_ (s, a, 0) (show (0 ≤ (0 : Int) ∧ (0 : Int) ≤ S 233 0) ∧ (0 ≤ a ∧ a < 7) ∧ (fo (wsM S (bs (fun kk => S 233 (8 + kk) = t) (S 233 0)) (c - 1 + 1)) (a, s) (0 : Int).toNat = (a, s)) from by exact ⟨by omega, by omega, rfl⟩)
      rintro ⟨y, b, f⟩ hI' ih39
      have hI' : (0 ≤ f ∧ f ≤ S 233 0) ∧ (0 ≤ b ∧ b < 7) ∧ (fo (wsM S (bs (fun kk => S 233 (8 + kk) = t) (S 233 0)) (c - 1 + 1)) (a, s) f.toNat = (b, y)) := hI'
      obtain ⟨i4, i5, i6⟩ := hI'
      show RS _ _ _ _ [some (.inr (.inr 232)), some (.inl t), some (.inl (bs (fun kk => S 233 (8 + kk) = t) (S 233 0))), some (.inl y), some (.inl b), some (.inl c), some (.inl f)] [] S
      refine r_iload (pc' := 41) rfl rfl rfl ?_
      refine r_aload (pc' := 42) rfl rfl rfl ?_
      refine r_getr (pc' := 45) (v := 233) rfl rfl rfl rfl rfl ?_
      refine r_const (pc' := 46) rfl rfl ?_
      refine r_aldv (pc' := 47) (v := (S 233 0)) 187 rfl rfl rfl (by omega) rfl ?_
      by_cases h18 : f < (S 233 0)
      · refine r_icmp_ge0 (pc' := 50) rfl rfl (by omega) (by omega) ?_
        refine r_iload (pc' := 51) rfl rfl rfl ?_
        refine r_iload (pc' := 53) rfl rfl rfl ?_
        by_cases h19 : tb (bs (fun kk => S 233 (8 + kk) = t) (S 233 0)) f
        · skip
          refine q_callE (pc' := 56) (w := some (.inl 1)) (S2 := S) (st' := [.inl 1]) rfl rfl rfl (bi_pos h19 (c_X11_has (s := (bs (fun kk => S 233 (8 + kk) = t) (S 233 0))) (q := f) (S := S)  (show -2147483648 ≤ (bs (fun kk => S 233 (8 + kk) = t) (S 233 0)) ∧ (bs (fun kk => S 233 (8 + kk) = t) (S 233 0)) < 2147483648 from by omega) (show 0 ≤ f ∧ f < 32 from by omega))) (by decide) rfl rfl (Nat.le_of_ble_eq_true rfl) (fun q => absurd rfl q) rfl rfl ?_
          refine r_if_eq0 (pc' := 59) rfl rfl (by decide) (by decide) ?_
          refine r_aload (pc' := 60) rfl rfl rfl ?_
          refine r_getr (pc' := 63) (v := 233) rfl rfl rfl rfl rfl ?_
          refine r_const (pc' := 65) rfl rfl ?_
          refine r_iload (pc' := 67) rfl rfl rfl ?_
          refine r_iadd (pc' := 68) rfl rfl ?_
          refine r_aldv (pc' := 69) (v := (S 233 (15 + f))) 187 rfl rfl rfl (by omega) rfl ?_
          have b20 := bdc_233_15 hB f
          refine r_iload (pc' := 71) rfl rfl rfl ?_
          by_cases h21 : (S 233 (15 + f)) = c
          · refine r_icmp_ne0 (pc' := 74) rfl rfl (by omega) (by omega) ?_
            refine r_iload (pc' := 75) rfl rfl rfl ?_
            refine r_aload (pc' := 76) rfl rfl rfl ?_
            refine r_getr (pc' := 79) (v := 235) rfl rfl rfl rfl rfl ?_
            refine r_const (pc' := 81) rfl rfl ?_
            refine r_iload (pc' := 83) rfl rfl rfl ?_
            refine r_imul (pc' := 84) rfl rfl ?_
            refine r_iload (pc' := 86) rfl rfl rfl ?_
            refine r_iadd (pc' := 87) rfl rfl ?_
            refine r_aldv (pc' := 88) (v := (S 235 ((7 * b) + f))) 49 rfl rfl rfl (by omega) rfl ?_
            have b22 : 0 ≤ S 235 ((7 * b) + f) ∧ S 235 ((7 * b) + f) ≤ 1000000 := hB 235 ((7 * b) + f)
            refine r_aload (pc' := 89) rfl rfl rfl ?_
            refine r_iload (pc' := 91) rfl rfl rfl ?_
            have b23 := bdc_233_1 hB f
            have b24 : 0 ≤ S 236 10 ∧ S 236 10 ≤ 9 := hB 236 10
            by_cases h25 : S 233 (1 + f) ≠ 1 ∨ S 236 10 < 5
            · skip
              refine q_callE (pc' := 94) (w := some (.inl 1)) (S2 := S) (st' := [.inl 1, .inl (S 235 ((7 * b) + f)), .inl y]) rfl rfl rfl (bi_pos h25 (c_X11_mayRead (f := f) (S := S) hB (show 0 ≤ f ∧ f < 7 from by omega))) (by decide) rfl rfl (Nat.le_of_ble_eq_true rfl) (fun _ _ => ⟨_, _, rfl, rfl⟩) rfl rfl ?_
              refine r_if_eq0 (pc' := 97) rfl rfl (by decide) (by decide) ?_
              refine r_aload (pc' := 98) rfl rfl rfl ?_
              refine r_iload (pc' := 100) rfl rfl rfl ?_
              have b26 := bdc_236_0 hB f
              refine q_callE (pc' := 103) (w := some (.inl (mins (S 233 (1 + f)) (pop (S 236 (0 + f)))))) (S2 := S) (st' := [.inl (mins (S 233 (1 + f)) (pop (S 236 (0 + f)))), .inl (S 235 ((7 * b) + f)), .inl y]) rfl rfl rfl (c_X11_minutesAt (f := f) (S := S) hB (show 0 ≤ f ∧ f < 7 from by omega)) (by decide) rfl rfl (Nat.le_of_ble_eq_true rfl) (fun _ _ => ⟨_, _, rfl, rfl⟩) rfl rfl ?_
              have b27 : 0 ≤ (mins (S 233 (1 + f)) (pop (S 236 (0 + f)))) ∧ (mins (S 233 (1 + f)) (pop (S 236 (0 + f)))) ≤ 34 := mM_r hB (by omega)
              refine r_goto (pc' := 108) rfl rfl ?_
              refine r_iadd (pc' := 109) rfl rfl ?_
              refine r_iadd (pc' := 110) rfl rfl ?_
              refine r_istore (pc' := 111) (ls' := [some (.inr (.inr 232)), some (.inl t), some (.inl (bs (fun kk => S 233 (8 + kk) = t) (S 233 0))), some (.inl (y + ((S 235 ((7 * b) + f)) + (mins (S 233 (1 + f)) (pop (S 236 (0 + f))))))), some (.inl b), some (.inl c), some (.inl f)]) rfl rfl rfl rfl ?_
              refine r_iload (pc' := 113) rfl rfl rfl ?_
              refine r_istore (pc' := 115) (ls' := [some (.inr (.inr 232)), some (.inl t), some (.inl (bs (fun kk => S 233 (8 + kk) = t) (S 233 0))), some (.inl (y + ((S 235 ((7 * b) + f)) + (mins (S 233 (1 + f)) (pop (S 236 (0 + f))))))), some (.inl f), some (.inl c), some (.inl f)]) rfl rfl rfl rfl ?_
              refine r_iinc (pc' := 118) (ls' := [some (.inr (.inr 232)), some (.inl t), some (.inl (bs (fun kk => S 233 (8 + kk) = t) (S 233 0))), some (.inl (y + ((S 235 ((7 * b) + f)) + (mins (S 233 (1 + f)) (pop (S 236 (0 + f))))))), some (.inl f), some (.inl c), some (.inl (f + 1))]) rfl rfl rfl rfl rfl ?_
              refine r_goto (pc' := 39) rfl rfl ?_
              exact ih39 ((y + ((S 235 ((7 * b) + f)) + (mins (S 233 (1 + f)) (pop (S 236 (0 + f)))))), f, (f + 1)) (show (0 ≤ (f + 1) ∧ (f + 1) ≤ S 233 0) ∧ (0 ≤ f ∧ f < 7) ∧ (fo (wsM S (bs (fun kk => S 233 (8 + kk) = t) (S 233 0)) (c - 1 + 1)) (a, s) (f + 1).toNat = (f, (y + ((S 235 ((7 * b) + f)) + (mins (S 233 (1 + f)) (pop (S 236 (0 + f)))))))) from by exact ⟨by omega, by omega, by rw [fo_s (by omega), i6]; exact (if_pos h19).trans ((if_pos (by omega)).trans (congrArg (fun z => (f, y + (S 235 (7 * b + f) + z))) (if_pos h25)))⟩) (show (S 233 0 - (f + 1)).toNat < (S 233 0 - f).toNat from by omega)
            · skip
              refine q_callE (pc' := 94) (w := some (.inl 0)) (S2 := S) (st' := [.inl 0, .inl (S 235 ((7 * b) + f)), .inl y]) rfl rfl rfl (bi_neg h25 (c_X11_mayRead (f := f) (S := S) hB (show 0 ≤ f ∧ f < 7 from by omega))) (by decide) rfl rfl (Nat.le_of_ble_eq_true rfl) (fun _ _ => ⟨_, _, rfl, rfl⟩) rfl rfl ?_
              refine r_if_eq1 (pc' := 106) rfl rfl (by decide) (by decide) ?_
              refine r_const (pc' := 108) rfl rfl ?_
              refine r_iadd (pc' := 109) rfl rfl ?_
              refine r_iadd (pc' := 110) rfl rfl ?_
              refine r_istore (pc' := 111) (ls' := [some (.inr (.inr 232)), some (.inl t), some (.inl (bs (fun kk => S 233 (8 + kk) = t) (S 233 0))), some (.inl (y + ((S 235 ((7 * b) + f)) + 1000000))), some (.inl b), some (.inl c), some (.inl f)]) rfl rfl rfl rfl ?_
              refine r_iload (pc' := 113) rfl rfl rfl ?_
              refine r_istore (pc' := 115) (ls' := [some (.inr (.inr 232)), some (.inl t), some (.inl (bs (fun kk => S 233 (8 + kk) = t) (S 233 0))), some (.inl (y + ((S 235 ((7 * b) + f)) + 1000000))), some (.inl f), some (.inl c), some (.inl f)]) rfl rfl rfl rfl ?_
              refine r_iinc (pc' := 118) (ls' := [some (.inr (.inr 232)), some (.inl t), some (.inl (bs (fun kk => S 233 (8 + kk) = t) (S 233 0))), some (.inl (y + ((S 235 ((7 * b) + f)) + 1000000))), some (.inl f), some (.inl c), some (.inl (f + 1))]) rfl rfl rfl rfl rfl ?_
              refine r_goto (pc' := 39) rfl rfl ?_
              exact ih39 ((y + ((S 235 ((7 * b) + f)) + 1000000)), f, (f + 1)) (show (0 ≤ (f + 1) ∧ (f + 1) ≤ S 233 0) ∧ (0 ≤ f ∧ f < 7) ∧ (fo (wsM S (bs (fun kk => S 233 (8 + kk) = t) (S 233 0)) (c - 1 + 1)) (a, s) (f + 1).toNat = (f, (y + ((S 235 ((7 * b) + f)) + 1000000)))) from by exact ⟨by omega, by omega, by rw [fo_s (by omega), i6]; exact (if_pos h19).trans ((if_pos (by omega)).trans (congrArg (fun z => (f, y + (S 235 (7 * b + f) + z))) (if_neg h25)))⟩) (show (S 233 0 - (f + 1)).toNat < (S 233 0 - f).toNat from by omega)
          · refine r_icmp_ne1 (pc' := 115) rfl rfl (by omega) (by omega) ?_
            refine r_iinc (pc' := 118) (ls' := [some (.inr (.inr 232)), some (.inl t), some (.inl (bs (fun kk => S 233 (8 + kk) = t) (S 233 0))), some (.inl y), some (.inl b), some (.inl c), some (.inl (f + 1))]) rfl rfl rfl rfl rfl ?_
            refine r_goto (pc' := 39) rfl rfl ?_
            exact ih39 (y, b, (f + 1)) (show (0 ≤ (f + 1) ∧ (f + 1) ≤ S 233 0) ∧ (0 ≤ b ∧ b < 7) ∧ (fo (wsM S (bs (fun kk => S 233 (8 + kk) = t) (S 233 0)) (c - 1 + 1)) (a, s) (f + 1).toNat = (b, y)) from by exact ⟨by omega, by omega, by rw [fo_s (by omega), i6]; exact (if_pos h19).trans (if_neg (by omega))⟩) (show (S 233 0 - (f + 1)).toNat < (S 233 0 - f).toNat from by omega)
        · skip
          refine q_callE (pc' := 56) (w := some (.inl 0)) (S2 := S) (st' := [.inl 0]) rfl rfl rfl (bi_neg h19 (c_X11_has (s := (bs (fun kk => S 233 (8 + kk) = t) (S 233 0))) (q := f) (S := S)  (show -2147483648 ≤ (bs (fun kk => S 233 (8 + kk) = t) (S 233 0)) ∧ (bs (fun kk => S 233 (8 + kk) = t) (S 233 0)) < 2147483648 from by omega) (show 0 ≤ f ∧ f < 32 from by omega))) (by decide) rfl rfl (Nat.le_of_ble_eq_true rfl) (fun q => absurd rfl q) rfl rfl ?_
          refine r_if_eq1 (pc' := 115) rfl rfl (by decide) (by decide) ?_
          refine r_iinc (pc' := 118) (ls' := [some (.inr (.inr 232)), some (.inl t), some (.inl (bs (fun kk => S 233 (8 + kk) = t) (S 233 0))), some (.inl y), some (.inl b), some (.inl c), some (.inl (f + 1))]) rfl rfl rfl rfl rfl ?_
          refine r_goto (pc' := 39) rfl rfl ?_
          exact ih39 (y, b, (f + 1)) (show (0 ≤ (f + 1) ∧ (f + 1) ≤ S 233 0) ∧ (0 ≤ b ∧ b < 7) ∧ (fo (wsM S (bs (fun kk => S 233 (8 + kk) = t) (S 233 0)) (c - 1 + 1)) (a, s) (f + 1).toNat = (b, y)) from by exact ⟨by omega, by omega, by rw [fo_s (by omega), i6]; exact if_neg h19⟩) (show (S 233 0 - (f + 1)).toNat < (S 233 0 - f).toNat from by omega)
      · refine r_icmp_ge1 (pc' := 121) rfl rfl (by omega) (by omega) ?_
        refine r_iinc (pc' := 124) (ls' := [some (.inr (.inr 232)), some (.inl t), some (.inl (bs (fun kk => S 233 (8 + kk) = t) (S 233 0))), some (.inl y), some (.inl b), some (.inl (c + 1)), some (.inl f)]) rfl rfl rfl rfl rfl ?_
        refine r_goto (pc' := 29) rfl rfl ?_
        refine r_forget [true, true, true, true, true, true, false] rfl ?_
        exact ih29 (y, b, (c + 1)) (show (1 ≤ (c + 1) ∧ (c + 1) ≤ 10) ∧ (0 ≤ b ∧ b < 7) ∧ (fo (fun cc z => fo (wsM S (bs (fun kk => S 233 (8 + kk) = t) (S 233 0)) (cc + 1)) z (S 233 0).toNat) (S 236 11, (0 : Int)) ((c + 1) - 1).toNat = (b, y)) from by exact ⟨by omega, by omega, by rw [show c + 1 - 1 = c - 1 + 1 by omega, fo_s (by omega), i2]; exact (congrArg (fo _ _) (show (S 233 0).toNat = f.toNat by omega)).trans i6⟩) (show (10 - (c + 1)).toNat < (10 - c).toNat from by omega)
    · refine r_icmp_ge1 (pc' := 127) rfl rfl (by omega) (by omega) ?_
      refine r_iload (pc' := 128) rfl rfl rfl ?_
      refine q_iret rfl rfl rfl ?_
      have e : (9 : Nat) = (c - 1).toNat := by omega
      exact ⟨by unfold wMo whM; rw [if_neg h3, e, i2], rfl⟩
noncomputable def v_X11_whole (S : rS) (t : Int) : Int := if 0 ≤ t ∧ t ≤ 3 then if (wMo S t) < 1000000 then wMo S t else (-1) else (-2)
theorem c_X11_whole {t : Int} {S : rS} (hB : Bd S) (h_t : -2147483648 ≤ t ∧ t < 2147483648) : CS 4 129 [.inr (.inr 232), .inl t] S (fun r' S' => r' = some (.inl (v_X11_whole S t)) ∧ S' = S) := by
  refine RS.beg (ls := [some (.inr (.inr 232)), some (.inl t), none]) rfl rfl rfl rfl rfl ?_
  refine r_iload (pc' := 1) rfl rfl rfl ?_
  by_cases h1 : 0 ≤ t ∧ t ≤ 3
  · skip
    refine q_callE (pc' := 4) (w := some (.inl 1)) (S2 := S) (st' := [.inl 1]) rfl rfl rfl (bi_pos h1 (c_X11_isTale (k := t) (S := S)  (show -2147483648 ≤ t ∧ t < 2147483648 from by omega))) (by decide) rfl rfl (Nat.le_of_ble_eq_true rfl) (fun q => absurd rfl q) rfl rfl ?_
    refine r_if_ne1 (pc' := 10) rfl rfl (by decide) (by decide) ?_
    refine r_aload (pc' := 11) rfl rfl rfl ?_
    refine r_iload (pc' := 12) rfl rfl rfl ?_
    refine q_callE (pc' := 15) (w := some (.inl (wMo S t))) (S2 := S) (st' := [.inl (wMo S t)]) rfl rfl rfl (c_X11_wholeOf (t := t) (S := S) hB (show -2147483648 ≤ t ∧ t < 2147483648 from by omega)) (by decide) rfl rfl (Nat.le_of_ble_eq_true rfl) (fun _ _ => ⟨_, _, rfl, rfl⟩) rfl rfl ?_
    have b2 : 0 ≤ (wMo S t) ∧ (wMo S t) ≤ 127000000 := wMo_r hB _
    refine r_istore (pc' := 16) (ls' := [some (.inr (.inr 232)), some (.inl t), some (.inl (wMo S t))]) rfl rfl rfl rfl ?_
    refine r_iload (pc' := 17) rfl rfl rfl ?_
    refine r_const (pc' := 19) rfl rfl ?_
    by_cases h3 : (wMo S t) < 1000000
    · refine r_icmp_ge0 (pc' := 22) rfl rfl (by omega) (by omega) ?_
      refine r_iload (pc' := 23) rfl rfl rfl ?_
      refine r_goto (pc' := 27) rfl rfl ?_
      refine q_iret rfl rfl rfl ?_
      exact ⟨by unfold v_X11_whole; rw [if_pos h1, if_pos h3], rfl⟩
    · refine r_icmp_ge1 (pc' := 26) rfl rfl (by omega) (by omega) ?_
      refine r_const (pc' := 27) rfl rfl ?_
      refine q_iret rfl rfl rfl ?_
      exact ⟨by unfold v_X11_whole; rw [if_pos h1, if_neg h3], rfl⟩
  · skip
    refine q_callE (pc' := 4) (w := some (.inl 0)) (S2 := S) (st' := [.inl 0]) rfl rfl rfl (bi_neg h1 (c_X11_isTale (k := t) (S := S)  (show -2147483648 ≤ t ∧ t < 2147483648 from by omega))) (by decide) rfl rfl (Nat.le_of_ble_eq_true rfl) (fun q => absurd rfl q) rfl rfl ?_
    refine r_if_ne0 (pc' := 7) rfl rfl (by decide) (by decide) ?_
    refine r_const (pc' := 9) rfl rfl ?_
    refine q_iret rfl rfl rfl ?_
    exact ⟨by unfold v_X11_whole; rw [if_neg h1], rfl⟩
noncomputable def v_X11_before (S : rS) (t : Int) : Int := if 0 ≤ t ∧ t ≤ 3 then if (S 233 186) < ((S 236 7) + (wMo S t)) then 0 else 1 else (-2)
theorem c_X11_before {t : Int} {S : rS} (hB : Bd S) (h_t : -2147483648 ≤ t ∧ t < 2147483648) : CS 4 59 [.inr (.inr 232), .inl t] S (fun r' S' => r' = some (.inl (v_X11_before S t)) ∧ S' = S) := by
  refine RS.beg (ls := [some (.inr (.inr 232)), some (.inl t)]) rfl rfl rfl rfl rfl ?_
  have s7 : 0 ≤ S 236 7 ∧ S 236 7 ≤ 99 := hB 236 7
  have s8 : 0 ≤ S 236 8 ∧ S 236 8 ≤ 999 := hB 236 8
  have s9 : 0 ≤ S 236 9 ∧ S 236 9 ≤ 127 := hB 236 9
  have s10 : 0 ≤ S 236 10 ∧ S 236 10 ≤ 9 := hB 236 10
  have s11 : 0 ≤ S 236 11 ∧ S 236 11 ≤ 6 := hB 236 11
  have dk : 0 ≤ S 233 186 ∧ S 233 186 ≤ 99 := hB 233 186
  refine r_iload (pc' := 1) rfl rfl rfl ?_
  by_cases h1 : 0 ≤ t ∧ t ≤ 3
  · skip
    refine q_callE (pc' := 4) (w := some (.inl 1)) (S2 := S) (st' := [.inl 1]) rfl rfl rfl (bi_pos h1 (c_X11_isTale (k := t) (S := S)  (show -2147483648 ≤ t ∧ t < 2147483648 from by omega))) (by decide) rfl rfl (Nat.le_of_ble_eq_true rfl) (fun q => absurd rfl q) rfl rfl ?_
    refine r_if_ne1 (pc' := 10) rfl rfl (by decide) (by decide) ?_
    refine r_aload (pc' := 11) rfl rfl rfl ?_
    refine r_getr (pc' := 14) (v := 236) rfl rfl rfl rfl rfl ?_
    refine r_const (pc' := 16) rfl rfl ?_
    refine r_aldv (pc' := 17) (v := (S 236 7)) 12 rfl rfl rfl (by omega) rfl ?_
    have b2 : 0 ≤ S 236 7 ∧ S 236 7 ≤ 99 := hB 236 7
    refine r_aload (pc' := 18) rfl rfl rfl ?_
    refine r_iload (pc' := 19) rfl rfl rfl ?_
    refine q_callE (pc' := 22) (w := some (.inl (wMo S t))) (S2 := S) (st' := [.inl (wMo S t), .inl (S 236 7)]) rfl rfl rfl (c_X11_wholeOf (t := t) (S := S) hB (show -2147483648 ≤ t ∧ t < 2147483648 from by omega)) (by decide) rfl rfl (Nat.le_of_ble_eq_true rfl) (fun _ _ => ⟨_, _, rfl, rfl⟩) rfl rfl ?_
    have b3 : 0 ≤ (wMo S t) ∧ (wMo S t) ≤ 127000000 := wMo_r hB _
    refine r_iadd (pc' := 23) rfl rfl ?_
    refine r_aload (pc' := 24) rfl rfl rfl ?_
    refine r_getr (pc' := 27) (v := 233) rfl rfl rfl rfl rfl ?_
    refine r_const (pc' := 30) rfl rfl ?_
    refine r_aldv (pc' := 31) (v := (S 233 186)) 187 rfl rfl rfl (by omega) rfl ?_
    have b4 : 0 ≤ S 233 186 ∧ S 233 186 ≤ 99 := hB 233 186
    by_cases h5 : (S 233 186) < ((S 236 7) + (wMo S t))
    · refine r_icmp_le0 (pc' := 34) rfl rfl (by omega) (by omega) ?_
      refine r_const (pc' := 35) rfl rfl ?_
      refine r_goto (pc' := 39) rfl rfl ?_
      refine q_iret rfl rfl rfl ?_
      exact ⟨by unfold v_X11_before; rw [if_pos h1, if_pos h5], rfl⟩
    · refine r_icmp_le1 (pc' := 38) rfl rfl (by omega) (by omega) ?_
      refine r_const (pc' := 39) rfl rfl ?_
      refine q_iret rfl rfl rfl ?_
      exact ⟨by unfold v_X11_before; rw [if_pos h1, if_neg h5], rfl⟩
  · skip
    refine q_callE (pc' := 4) (w := some (.inl 0)) (S2 := S) (st' := [.inl 0]) rfl rfl rfl (bi_neg h1 (c_X11_isTale (k := t) (S := S)  (show -2147483648 ≤ t ∧ t < 2147483648 from by omega))) (by decide) rfl rfl (Nat.le_of_ble_eq_true rfl) (fun q => absurd rfl q) rfl rfl ?_
    refine r_if_ne0 (pc' := 7) rfl rfl (by decide) (by decide) ?_
    refine r_const (pc' := 9) rfl rfl ?_
    refine q_iret rfl rfl rfl ?_
    exact ⟨by unfold v_X11_before; rw [if_neg h1], rfl⟩
/-- a round through the gates, as the reference goes -/
def rgM (S : rS) (g r0 : Int) : Int := fo (fun kk xx => if tb g kk ∧ mx_and xx (ends (S 233 (86 + kk)) (S 233 (95 + kk))) ≠ 0 then mx_or xx (ends (S 233 (86 + kk)) (S 233 (95 + kk))) else xx) r0 (S 233 85).toNat
def cbM (S : rS) (g : Int) : Int := fo (fun _ xx => rgM S g xx) (mx_shl 1 (S 236 11)) 128
theorem or_ge_n : ∀ a : Fin 128, ∀ k : Fin 7, (a.val : Int) ≤ mx_or a.val (mx_shl 1 k.val) := by decide +kernel
theorem or_ge {a b : Int} (ha : 0 ≤ a ∧ a < 128) (hb : 0 ≤ b ∧ b < 7) : a ≤ mx_or a (mx_shl 1 b) := by
  obtain ⟨x, rfl⟩ := Int.eq_ofNat_of_zero_le ha.1
  obtain ⟨y, rfl⟩ := Int.eq_ofNat_of_zero_le hb.1
  exact or_ge_n ⟨x, by omega⟩ ⟨y, by omega⟩
theorem or_assoc {a b c : Int} : mx_or a (mx_or b c) = mx_or (mx_or a b) c := b_ext (mx_or_r _ _) (mx_or_r _ _) (fun i _ => by rw [b_or, b_or, b_or, b_or, Bool.or_assoc])
theorem ends_ge {a x y : Int} (ha : 0 ≤ a ∧ a < 128) (hx : 0 ≤ x ∧ x < 7) (hy : 0 ≤ y ∧ y < 7) : a ≤ mx_or a (ends x y) := by
  unfold ends
  rw [or_assoc]
  have q1 := or_ge ha hx
  have q2 := or_u (a := a) (b := mx_shl 1 x) 7 (by omega) ha (shl_u 7 (by omega) hx) (by omega) (by have := shl_u (k := x) 7 (by omega) hx; omega)
  exact Int.le_trans q1 (or_ge q2 hy)
theorem c_X11_comesBy {g : Int} {S : rS} (hB : Bd S) (h_g : 0 ≤ g ∧ g < 512) : CS 2 65 [.inr (.inr 232), .inl g] S (fun r' S' => r' = some (.inl (cbM S g)) ∧ S' = S) := by
  refine RS.beg (ls := [some (.inr (.inr 232)), some (.inl g), none, none, none, none, none]) rfl rfl rfl rfl rfl ?_
  have n6 : 0 ≤ S 233 85 ∧ S 233 85 ≤ 9 := hB 233 85
  have s7 : 0 ≤ S 236 7 ∧ S 236 7 ≤ 99 := hB 236 7
  have s8 : 0 ≤ S 236 8 ∧ S 236 8 ≤ 999 := hB 236 8
  have s9 : 0 ≤ S 236 9 ∧ S 236 9 ≤ 127 := hB 236 9
  have s10 : 0 ≤ S 236 10 ∧ S 236 10 ≤ 9 := hB 236 10
  have s11 : 0 ≤ S 236 11 ∧ S 236 11 ≤ 6 := hB 236 11
  have dk : 0 ≤ S 233 186 ∧ S 233 186 ≤ 99 := hB 233 186
  have b8 : 0 ≤ mx_shl 1 (S 236 11) ∧ mx_shl 1 (S 236 11) < 128 := shl_u 7 (by omega) (by omega)
  refine r_const (pc' := 1) rfl rfl ?_
  refine r_aload (pc' := 2) rfl rfl rfl ?_
  refine r_getr (pc' := 5) (v := 236) rfl rfl rfl rfl rfl ?_
  refine r_const (pc' := 7) rfl rfl ?_
  refine r_aldv (pc' := 8) (v := (S 236 11)) 12 rfl rfl rfl (by omega) rfl ?_
  have b1 : 0 ≤ S 236 11 ∧ S 236 11 ≤ 6 := hB 236 11
  refine r_ishl (pc' := 9) rfl rfl ?_
  have b2 := mx_shl_r 1 (S 236 11)
  refine r_istore (pc' := 10) (ls' := [some (.inr (.inr 232)), some (.inl g), some (.inl (mx_shl 1 (S 236 11))), none, none, none, none]) rfl rfl rfl rfl ?_
  refine r_const (pc' := 11) rfl rfl ?_
  refine r_istore (pc' := 12) (ls' := [some (.inr (.inr 232)), some (.inl g), some (.inl (mx_shl 1 (S 236 11))), some (.inl 1), none, none, none]) rfl rfl rfl rfl ?_
  refine r_while (α := Int × Int) (fun z' => [some (.inr (.inr 232)), some (.inl g), some (.inl z'.1), some (.inl z'.2), none, none, none]) (fun z' => S) (fun z' => ((0 ≤ z'.1 ∧ z'.1 < 128) ∧ (z'.2 = 0 ∨ z'.2 = 1)) ∧ (∃ n : Nat, (n : Int) ≤ z'.1 ∧ z'.1 = fo (fun _ xx => rgM S g xx) (mx_shl 1 (S 236 11)) n) ∧ (z'.2 = 0 → rgM S g z'.1 = z'.1)) (fun z' => ((127 - z'.1) * 2 + z'.2).toNat) ?_ ((mx_shl 1 (S 236 11)), 1) (show ((0 ≤ (mx_shl 1 (S 236 11)) ∧ (mx_shl 1 (S 236 11)) < 128) ∧ ((1 : Int) = 0 ∨ (1 : Int) = 1)) ∧ (∃ n : Nat, (n : Int) ≤ (mx_shl 1 (S 236 11)) ∧ (mx_shl 1 (S 236 11)) = fo (fun _ xx => rgM S g xx) (mx_shl 1 (S 236 11)) n) ∧ ((1 : Int) = 0 → rgM S g (mx_shl 1 (S 236 11)) = (mx_shl 1 (S 236 11))) from by exact ⟨by omega, ⟨0, by omega, rfl⟩, fun q => absurd q (by omega)⟩)
  rintro ⟨r, u⟩ hI' ih12
  have hI' : ((0 ≤ r ∧ r < 128) ∧ (u = 0 ∨ u = 1)) ∧ (∃ n : Nat, (n : Int) ≤ r ∧ r = fo (fun _ xx => rgM S g xx) (mx_shl 1 (S 236 11)) n) ∧ (u = 0 → rgM S g r = r) := hI'
  obtain ⟨i1, i2, i3⟩ := hI'
  show RS _ _ _ _ [some (.inr (.inr 232)), some (.inl g), some (.inl r), some (.inl u), none, none, none] [] S
  refine r_iload (pc' := 13) rfl rfl rfl ?_
  by_cases h3 : u = 0
  · refine r_if_eq1 (pc' := 107) rfl rfl (by omega) (by omega) ?_
    refine r_iload (pc' := 108) rfl rfl rfl ?_
    refine q_iret rfl rfl rfl ?_
    obtain ⟨n, n1, n2⟩ := i2
    exact ⟨by unfold cbM; rw [fo_fix (f := fun xx => rgM S g xx) (n := n) (m := 128) (by rw [← n2]; exact i3 (by omega)) (by omega), ← n2], rfl⟩
  · refine r_if_eq0 (pc' := 16) rfl rfl (by omega) (by omega) ?_
    refine r_iload (pc' := 17) rfl rfl rfl ?_
    refine r_istore (pc' := 19) (ls' := [some (.inr (.inr 232)), some (.inl g), some (.inl r), some (.inl u), some (.inl r), none, none]) rfl rfl rfl rfl ?_
    refine r_const (pc' := 20) rfl rfl ?_
    refine r_istore (pc' := 22) (ls' := [some (.inr (.inr 232)), some (.inl g), some (.inl r), some (.inl u), some (.inl r), some (.inl 0), none]) rfl rfl rfl rfl ?_
    refine r_while (α := Int × Int) (fun z' => [some (.inr (.inr 232)), some (.inl g), some (.inl z'.2), some (.inl u), some (.inl r), some (.inl z'.1), none]) (fun z' => S) (fun z' => (0 ≤ z'.1 ∧ z'.1 ≤ S 233 85) ∧ ((0 ≤ z'.2 ∧ z'.2 < 128) ∧ r ≤ z'.2) ∧ (z'.2 = fo (fun kk xx => if tb g kk ∧ mx_and xx (ends (S 233 (86 + kk)) (S 233 (95 + kk))) ≠ 0 then mx_or xx (ends (S 233 (86 + kk)) (S 233 (95 + kk))) else xx) r (z'.1).toNat)) (fun z' => (S 233 85 - z'.1).toNat) ?_ (0, r) (show (0 ≤ (0 : Int) ∧ (0 : Int) ≤ S 233 85) ∧ ((0 ≤ r ∧ r < 128) ∧ r ≤ r) ∧ (r = fo (fun kk xx => if tb g kk ∧ mx_and xx (ends (S 233 (86 + kk)) (S 233 (95 + kk))) ≠ 0 then mx_or xx (ends (S 233 (86 + kk)) (S 233 (95 + kk))) else xx) r (0 : Int).toNat) from by exact ⟨by omega, by omega, rfl⟩)
    rintro ⟨f, t⟩ hI' ih22
    have hI' : (0 ≤ f ∧ f ≤ S 233 85) ∧ ((0 ≤ t ∧ t < 128) ∧ r ≤ t) ∧ (t = fo (fun kk xx => if tb g kk ∧ mx_and xx (ends (S 233 (86 + kk)) (S 233 (95 + kk))) ≠ 0 then mx_or xx (ends (S 233 (86 + kk)) (S 233 (95 + kk))) else xx) r f.toNat) := hI'
    obtain ⟨i5, i6, i7⟩ := hI'
    show RS _ _ _ _ [some (.inr (.inr 232)), some (.inl g), some (.inl t), some (.inl u), some (.inl r), some (.inl f), none] [] S
    have c86 := bdc_233_86 hB f
    have c95 := bdc_233_95 hB f
    have b4 : 0 ≤ S 233 85 ∧ S 233 85 ≤ 9 := hB 233 85
    refine r_iload (pc' := 24) rfl rfl rfl ?_
    refine r_aload (pc' := 25) rfl rfl rfl ?_
    refine r_getr (pc' := 28) (v := 233) rfl rfl rfl rfl rfl ?_
    refine r_const (pc' := 30) rfl rfl ?_
    refine r_aldv (pc' := 31) (v := (S 233 85)) 187 rfl rfl rfl (by omega) rfl ?_
    by_cases h5 : f < (S 233 85)
    · refine r_icmp_ge0 (pc' := 34) rfl rfl (by omega) (by omega) ?_
      refine r_const (pc' := 35) rfl rfl ?_
      refine r_aload (pc' := 36) rfl rfl rfl ?_
      refine r_getr (pc' := 39) (v := 233) rfl rfl rfl rfl rfl ?_
      refine r_const (pc' := 41) rfl rfl ?_
      refine r_iload (pc' := 43) rfl rfl rfl ?_
      refine r_iadd (pc' := 44) rfl rfl ?_
      refine r_aldv (pc' := 45) (v := (S 233 (86 + f))) 187 rfl rfl rfl (by omega) rfl ?_
      have b6 := bdc_233_86 hB f
      refine r_ishl (pc' := 46) rfl rfl ?_
      have b7 := mx_shl_r 1 (S 233 (86 + f))
      refine r_const (pc' := 47) rfl rfl ?_
      refine r_aload (pc' := 48) rfl rfl rfl ?_
      refine r_getr (pc' := 51) (v := 233) rfl rfl rfl rfl rfl ?_
      refine r_const (pc' := 53) rfl rfl ?_
      refine r_iload (pc' := 55) rfl rfl rfl ?_
      refine r_iadd (pc' := 56) rfl rfl ?_
      refine r_aldv (pc' := 57) (v := (S 233 (95 + f))) 187 rfl rfl rfl (by omega) rfl ?_
      have b8 := bdc_233_95 hB f
      refine r_ishl (pc' := 58) rfl rfl ?_
      have b9 := mx_shl_r 1 (S 233 (95 + f))
      refine r_ior (pc' := 59) rfl rfl ?_
      have b10 := mx_or_r (mx_shl 1 (S 233 (86 + f))) (mx_shl 1 (S 233 (95 + f)))
      refine r_istore (pc' := 61) (ls' := [some (.inr (.inr 232)), some (.inl g), some (.inl t), some (.inl u), some (.inl r), some (.inl f), some (.inl (mx_or (mx_shl 1 (S 233 (86 + f))) (mx_shl 1 (S 233 (95 + f)))))]) rfl rfl rfl rfl ?_
      refine r_iload (pc' := 62) rfl rfl rfl ?_
      refine r_iload (pc' := 63) rfl rfl rfl ?_
      refine r_iload (pc' := 65) rfl rfl rfl ?_
      by_cases h11 : tb g f
      · skip
        refine q_callE (pc' := 68) (w := some (.inl 1)) (S2 := S) (st' := [.inl 1, .inl t]) rfl rfl rfl (bi_pos h11 (c_X11_has (s := g) (q := f) (S := S)  (show -2147483648 ≤ g ∧ g < 2147483648 from by omega) (show 0 ≤ f ∧ f < 32 from by omega))) (by decide) rfl rfl (Nat.le_of_ble_eq_true rfl) (fun q => absurd rfl q) rfl rfl ?_
        refine r_if_eq0 (pc' := 71) rfl rfl (by decide) (by decide) ?_
        refine r_iload (pc' := 72) rfl rfl rfl ?_
        refine r_iload (pc' := 74) rfl rfl rfl ?_
        refine r_iand (pc' := 75) rfl rfl ?_
        have b12 := mx_and_r t (mx_or (mx_shl 1 (S 233 (86 + f))) (mx_shl 1 (S 233 (95 + f))))
        by_cases h13 : (mx_and t (mx_or (mx_shl 1 (S 233 (86 + f))) (mx_shl 1 (S 233 (95 + f))))) = 0
        · refine r_if_eq1 (pc' := 83) rfl rfl (by omega) (by omega) ?_
          refine r_const (pc' := 84) rfl rfl ?_
          refine r_ior (pc' := 85) rfl rfl ?_
          have b14 := mx_or_r t 0
          have e15 := mx_or0 (a := t) (by omega)
          refine r_istore (pc' := 86) (ls' := [some (.inr (.inr 232)), some (.inl g), some (.inl (mx_or t 0)), some (.inl u), some (.inl r), some (.inl f), some (.inl (mx_or (mx_shl 1 (S 233 (86 + f))) (mx_shl 1 (S 233 (95 + f)))))]) rfl rfl rfl rfl ?_
          refine r_iinc (pc' := 89) (ls' := [some (.inr (.inr 232)), some (.inl g), some (.inl (mx_or t 0)), some (.inl u), some (.inl r), some (.inl (f + 1)), some (.inl (mx_or (mx_shl 1 (S 233 (86 + f))) (mx_shl 1 (S 233 (95 + f)))))]) rfl rfl rfl rfl rfl ?_
          refine r_goto (pc' := 22) rfl rfl ?_
          refine r_forget [true, true, true, true, true, true, false] rfl ?_
          exact ih22 ((f + 1), (mx_or t 0)) (show (0 ≤ (f + 1) ∧ (f + 1) ≤ S 233 85) ∧ ((0 ≤ (mx_or t 0) ∧ (mx_or t 0) < 128) ∧ r ≤ (mx_or t 0)) ∧ ((mx_or t 0) = fo (fun kk xx => if tb g kk ∧ mx_and xx (ends (S 233 (86 + kk)) (S 233 (95 + kk))) ≠ 0 then mx_or xx (ends (S 233 (86 + kk)) (S 233 (95 + kk))) else xx) r (f + 1).toNat) from by exact ⟨by omega, by omega, by rw [fo_s (by omega), ← i7, mx_or0 (by omega)]; exact (if_neg (fun q => q.2 h13)).symm⟩) (show (S 233 85 - (f + 1)).toNat < (S 233 85 - f).toNat from by omega)
        · refine r_if_eq0 (pc' := 78) rfl rfl (by omega) (by omega) ?_
          refine r_iload (pc' := 80) rfl rfl rfl ?_
          refine r_goto (pc' := 84) rfl rfl ?_
          refine r_ior (pc' := 85) rfl rfl ?_
          have b16 := mx_or_r t (mx_or (mx_shl 1 (S 233 (86 + f))) (mx_shl 1 (S 233 (95 + f))))
          refine r_istore (pc' := 86) (ls' := [some (.inr (.inr 232)), some (.inl g), some (.inl (mx_or t (mx_or (mx_shl 1 (S 233 (86 + f))) (mx_shl 1 (S 233 (95 + f)))))), some (.inl u), some (.inl r), some (.inl f), some (.inl (mx_or (mx_shl 1 (S 233 (86 + f))) (mx_shl 1 (S 233 (95 + f)))))]) rfl rfl rfl rfl ?_
          refine r_iinc (pc' := 89) (ls' := [some (.inr (.inr 232)), some (.inl g), some (.inl (mx_or t (mx_or (mx_shl 1 (S 233 (86 + f))) (mx_shl 1 (S 233 (95 + f)))))), some (.inl u), some (.inl r), some (.inl (f + 1)), some (.inl (mx_or (mx_shl 1 (S 233 (86 + f))) (mx_shl 1 (S 233 (95 + f)))))]) rfl rfl rfl rfl rfl ?_
          refine r_goto (pc' := 22) rfl rfl ?_
          refine r_forget [true, true, true, true, true, true, false] rfl ?_
          exact ih22 ((f + 1), (mx_or t (mx_or (mx_shl 1 (S 233 (86 + f))) (mx_shl 1 (S 233 (95 + f)))))) (show (0 ≤ (f + 1) ∧ (f + 1) ≤ S 233 85) ∧ ((0 ≤ (mx_or t (mx_or (mx_shl 1 (S 233 (86 + f))) (mx_shl 1 (S 233 (95 + f))))) ∧ (mx_or t (mx_or (mx_shl 1 (S 233 (86 + f))) (mx_shl 1 (S 233 (95 + f))))) < 128) ∧ r ≤ (mx_or t (mx_or (mx_shl 1 (S 233 (86 + f))) (mx_shl 1 (S 233 (95 + f)))))) ∧ ((mx_or t (mx_or (mx_shl 1 (S 233 (86 + f))) (mx_shl 1 (S 233 (95 + f))))) = fo (fun kk xx => if tb g kk ∧ mx_and xx (ends (S 233 (86 + kk)) (S 233 (95 + kk))) ≠ 0 then mx_or xx (ends (S 233 (86 + kk)) (S 233 (95 + kk))) else xx) r (f + 1).toNat) from by exact ⟨by omega, (by have q1 := ends_ge (a := t) (x := S 233 (86 + f)) (y := S 233 (95 + f)) (by omega) (by omega) (by omega); have q2 := or_u (a := t) (b := ends (S 233 (86 + f)) (S 233 (95 + f))) 7 (by omega) (by omega) (or_u 7 (by omega) (shl_u 7 (by omega) (by omega)) (shl_u 7 (by omega) (by omega)) (by omega) (by omega)) (by omega) (by unfold ends; omega); exact ⟨q2, by unfold ends at q1; omega⟩), by rw [fo_s (by omega), ← i7]; exact (if_pos ⟨h11, h13⟩).symm⟩) (show (S 233 85 - (f + 1)).toNat < (S 233 85 - f).toNat from by omega)
      · skip
        refine q_callE (pc' := 68) (w := some (.inl 0)) (S2 := S) (st' := [.inl 0, .inl t]) rfl rfl rfl (bi_neg h11 (c_X11_has (s := g) (q := f) (S := S)  (show -2147483648 ≤ g ∧ g < 2147483648 from by omega) (show 0 ≤ f ∧ f < 32 from by omega))) (by decide) rfl rfl (Nat.le_of_ble_eq_true rfl) (fun q => absurd rfl q) rfl rfl ?_
        refine r_if_eq1 (pc' := 83) rfl rfl (by decide) (by decide) ?_
        refine r_const (pc' := 84) rfl rfl ?_
        refine r_ior (pc' := 85) rfl rfl ?_
        have b17 := mx_or_r t 0
        have e18 := mx_or0 (a := t) (by omega)
        refine r_istore (pc' := 86) (ls' := [some (.inr (.inr 232)), some (.inl g), some (.inl (mx_or t 0)), some (.inl u), some (.inl r), some (.inl f), some (.inl (mx_or (mx_shl 1 (S 233 (86 + f))) (mx_shl 1 (S 233 (95 + f)))))]) rfl rfl rfl rfl ?_
        refine r_iinc (pc' := 89) (ls' := [some (.inr (.inr 232)), some (.inl g), some (.inl (mx_or t 0)), some (.inl u), some (.inl r), some (.inl (f + 1)), some (.inl (mx_or (mx_shl 1 (S 233 (86 + f))) (mx_shl 1 (S 233 (95 + f)))))]) rfl rfl rfl rfl rfl ?_
        refine r_goto (pc' := 22) rfl rfl ?_
        refine r_forget [true, true, true, true, true, true, false] rfl ?_
        exact ih22 ((f + 1), (mx_or t 0)) (show (0 ≤ (f + 1) ∧ (f + 1) ≤ S 233 85) ∧ ((0 ≤ (mx_or t 0) ∧ (mx_or t 0) < 128) ∧ r ≤ (mx_or t 0)) ∧ ((mx_or t 0) = fo (fun kk xx => if tb g kk ∧ mx_and xx (ends (S 233 (86 + kk)) (S 233 (95 + kk))) ≠ 0 then mx_or xx (ends (S 233 (86 + kk)) (S 233 (95 + kk))) else xx) r (f + 1).toNat) from by exact ⟨by omega, by omega, by rw [fo_s (by omega), ← i7, mx_or0 (by omega)]; exact (if_neg (fun q => absurd q.1 h11)).symm⟩) (show (S 233 85 - (f + 1)).toNat < (S 233 85 - f).toNat from by omega)
    · refine r_icmp_ge1 (pc' := 92) rfl rfl (by omega) (by omega) ?_
      refine r_iload (pc' := 93) rfl rfl rfl ?_
      refine r_iload (pc' := 95) rfl rfl rfl ?_
      by_cases h19 : t = r
      · refine r_icmp_eq1 (pc' := 102) rfl rfl (by omega) (by omega) ?_
        refine r_const (pc' := 103) rfl rfl ?_
        refine r_istore (pc' := 104) (ls' := [some (.inr (.inr 232)), some (.inl g), some (.inl t), some (.inl 0), some (.inl r), some (.inl f), none]) rfl rfl rfl rfl ?_
        refine r_goto (pc' := 12) rfl rfl ?_
        refine r_forget [true, true, true, true, false, false, true] rfl ?_
        exact ih12 (t, 0) (show ((0 ≤ t ∧ t < 128) ∧ ((0 : Int) = 0 ∨ (0 : Int) = 1)) ∧ (∃ n : Nat, (n : Int) ≤ t ∧ t = fo (fun _ xx => rgM S g xx) (mx_shl 1 (S 236 11)) n) ∧ ((0 : Int) = 0 → rgM S g t = t) from by have e9 : rgM S g r = t := (congrArg (fo (fun kk xx => if tb g kk ∧ mx_and xx (ends (S 233 (86 + kk)) (S 233 (95 + kk))) ≠ 0 then mx_or xx (ends (S 233 (86 + kk)) (S 233 (95 + kk))) else xx) r) (show (S 233 85).toNat = f.toNat by omega)).trans i7.symm; exact ⟨by omega, (by obtain ⟨n, n1, n2⟩ := i2; first | exact ⟨n, by omega, by rw [show t = r by omega]; exact n2⟩ | exact ⟨n + 1, by omega, by show t = rgM S g (fo _ _ n); rw [← n2, e9]⟩), fun q => by first | (rw [show t = r by omega] at e9 ⊢; exact e9) | omega⟩) (show ((127 - t) * 2 + (0 : Int)).toNat < ((127 - r) * 2 + u).toNat from by omega)
      · refine r_icmp_eq0 (pc' := 98) rfl rfl (by omega) (by omega) ?_
        refine r_const (pc' := 99) rfl rfl ?_
        refine r_goto (pc' := 103) rfl rfl ?_
        refine r_istore (pc' := 104) (ls' := [some (.inr (.inr 232)), some (.inl g), some (.inl t), some (.inl 1), some (.inl r), some (.inl f), none]) rfl rfl rfl rfl ?_
        refine r_goto (pc' := 12) rfl rfl ?_
        refine r_forget [true, true, true, true, false, false, true] rfl ?_
        exact ih12 (t, 1) (show ((0 ≤ t ∧ t < 128) ∧ ((1 : Int) = 0 ∨ (1 : Int) = 1)) ∧ (∃ n : Nat, (n : Int) ≤ t ∧ t = fo (fun _ xx => rgM S g xx) (mx_shl 1 (S 236 11)) n) ∧ ((1 : Int) = 0 → rgM S g t = t) from by have e9 : rgM S g r = t := (congrArg (fo (fun kk xx => if tb g kk ∧ mx_and xx (ends (S 233 (86 + kk)) (S 233 (95 + kk))) ≠ 0 then mx_or xx (ends (S 233 (86 + kk)) (S 233 (95 + kk))) else xx) r) (show (S 233 85).toNat = f.toNat by omega)).trans i7.symm; exact ⟨by omega, (by obtain ⟨n, n1, n2⟩ := i2; first | exact ⟨n, by omega, by rw [show t = r by omega]; exact n2⟩ | exact ⟨n + 1, by omega, by show t = rgM S g (fo _ _ n); rw [← n2, e9]⟩), fun q => by first | (rw [show t = r by omega] at e9 ⊢; exact e9) | omega⟩) (show ((127 - t) * 2 + (1 : Int)).toNat < ((127 - r) * 2 + u).toNat from by omega)
def lsM (S : rS) (w : Int) : Int → Int → Int := fun kk z => if z = -1 ∨ pop kk < pop z then if mx_and w (mx_xor (cbM S kk) (-1)) = 0 then kk else z else z
noncomputable def lkM (S : rS) (t : Int) : Int := if bs (fun kk => S 233 (8 + kk) = t) (S 233 0) = 0 then -1 else fo (lsM S (bs (fun kk => S 233 (8 + kk) = t) (S 233 0))) (-1) (mx_shl 1 (S 233 85)).toNat
theorem lkM_e {S : rS} {t b n : Int} (hn : (mx_shl 1 (S 233 85)).toNat = n.toNat) (h4 : (bs (fun kk => S 233 (8 + kk) = t) (S 233 0)) = 0 → b = -1) (h2 : b = fo (lsM S (bs (fun kk => S 233 (8 + kk) = t) (S 233 0))) (-1) n.toNat) : b = lkM S t := by
  unfold lkM
  by_cases hz : (bs (fun kk => S 233 (8 + kk) = t) (S 233 0)) = 0
  · rw [if_pos hz]; exact h4 hz
  · rw [if_neg hz, hn]; exact h2
theorem c_X11_least {t : Int} {S : rS} (hB : Bd S) (h_t : -2147483648 ≤ t ∧ t < 2147483648) : CS 3 96 [.inr (.inr 232), .inl t] S (fun r' S' => r' = some (.inl (if 0 ≤ t ∧ t ≤ 3 then lkM S t else -2)) ∧ S' = S) := by
  refine RS.beg (ls := [some (.inr (.inr 232)), some (.inl t), none, none, none]) rfl rfl rfl rfl rfl ?_
  have n6 : 0 ≤ S 233 85 ∧ S 233 85 ≤ 9 := hB 233 85
  have n0 : 0 ≤ S 233 0 ∧ S 233 0 ≤ 7 := hB 233 0
  have s7 : 0 ≤ S 236 7 ∧ S 236 7 ≤ 99 := hB 236 7
  have s8 : 0 ≤ S 236 8 ∧ S 236 8 ≤ 999 := hB 236 8
  have s9 : 0 ≤ S 236 9 ∧ S 236 9 ≤ 127 := hB 236 9
  have s10 : 0 ≤ S 236 10 ∧ S 236 10 ≤ 9 := hB 236 10
  have s11 : 0 ≤ S 236 11 ∧ S 236 11 ≤ 6 := hB 236 11
  have dk : 0 ≤ S 233 186 ∧ S 233 186 ≤ 99 := hB 233 186
  have b9 := sh9 n6
  refine r_iload (pc' := 1) rfl rfl rfl ?_
  by_cases h1 : 0 ≤ t ∧ t ≤ 3
  · skip
    refine q_callE (pc' := 4) (w := some (.inl 1)) (S2 := S) (st' := [.inl 1]) rfl rfl rfl (bi_pos h1 (c_X11_isTale (k := t) (S := S)  (show -2147483648 ≤ t ∧ t < 2147483648 from by omega))) (by decide) rfl rfl (Nat.le_of_ble_eq_true rfl) (fun q => absurd rfl q) rfl rfl ?_
    refine r_if_ne1 (pc' := 10) rfl rfl (by decide) (by decide) ?_
    refine r_aload (pc' := 11) rfl rfl rfl ?_
    refine r_iload (pc' := 12) rfl rfl rfl ?_
    have b2 : 0 ≤ S 233 0 ∧ S 233 0 ≤ 7 := hB 233 0
    refine q_callE (pc' := 15) (w := some (.inl (bs (fun kk => S 233 (8 + kk) = t) (S 233 0)))) (S2 := S) (st' := [.inl (bs (fun kk => S 233 (8 + kk) = t) (S 233 0))]) rfl rfl rfl (c_X11_ofTale (t := t) (S := S) hB (show -2147483648 ≤ t ∧ t < 2147483648 from by omega)) (by decide) rfl rfl (Nat.le_of_ble_eq_true rfl) (fun _ _ => ⟨_, _, rfl, rfl⟩) rfl rfl ?_
    have b3 : 0 ≤ (bs (fun kk => S 233 (8 + kk) = t) (S 233 0)) ∧ (bs (fun kk => S 233 (8 + kk) = t) (S 233 0)) < 128 := bs7 (by have q : 0 ≤ S 233 0 ∧ S 233 0 ≤ 7 := hB 233 0; omega)
    refine r_istore (pc' := 16) (ls' := [some (.inr (.inr 232)), some (.inl t), some (.inl (bs (fun kk => S 233 (8 + kk) = t) (S 233 0))), none, none]) rfl rfl rfl rfl ?_
    refine r_const (pc' := 17) rfl rfl ?_
    refine r_istore (pc' := 18) (ls' := [some (.inr (.inr 232)), some (.inl t), some (.inl (bs (fun kk => S 233 (8 + kk) = t) (S 233 0))), some (.inl (-1)), none]) rfl rfl rfl rfl ?_
    refine r_const (pc' := 19) rfl rfl ?_
    refine r_istore (pc' := 21) (ls' := [some (.inr (.inr 232)), some (.inl t), some (.inl (bs (fun kk => S 233 (8 + kk) = t) (S 233 0))), some (.inl (-1)), some (.inl 0)]) rfl rfl rfl rfl ?_
    refine r_while (α := Int × Int) (fun z' => [some (.inr (.inr 232)), some (.inl t), some (.inl (bs (fun kk => S 233 (8 + kk) = t) (S 233 0))), some (.inl z'.1), some (.inl z'.2)]) (fun z' => S) (fun z' => (0 ≤ z'.2 ∧ z'.2 ≤ mx_shl 1 (S 233 85)) ∧ (-1 ≤ z'.1 ∧ z'.1 < 512) ∧ ((bs (fun kk => S 233 (8 + kk) = t) (S 233 0)) = 0 → z'.1 = -1) ∧ (z'.1 = fo (lsM S (bs (fun kk => S 233 (8 + kk) = t) (S 233 0))) (-1) (z'.2).toNat)) (fun z' => (mx_shl 1 (S 233 85) - z'.2).toNat) ?_ ((-1), 0) (show (0 ≤ (0 : Int) ∧ (0 : Int) ≤ mx_shl 1 (S 233 85)) ∧ (-1 ≤ (-1 : Int) ∧ (-1 : Int) < 512) ∧ ((bs (fun kk => S 233 (8 + kk) = t) (S 233 0)) = 0 → (-1 : Int) = -1) ∧ ((-1 : Int) = fo (lsM S (bs (fun kk => S 233 (8 + kk) = t) (S 233 0))) (-1) (0 : Int).toNat) from by exact ⟨by omega, by omega, fun _ => rfl, rfl⟩)
    rintro ⟨b, x⟩ hI' ih21
    have hI' : (0 ≤ x ∧ x ≤ mx_shl 1 (S 233 85)) ∧ (-1 ≤ b ∧ b < 512) ∧ ((bs (fun kk => S 233 (8 + kk) = t) (S 233 0)) = 0 → b = -1) ∧ (b = fo (lsM S (bs (fun kk => S 233 (8 + kk) = t) (S 233 0))) (-1) x.toNat) := hI'
    obtain ⟨i1, i3, i4, i2⟩ := hI'
    show RS _ _ _ _ [some (.inr (.inr 232)), some (.inl t), some (.inl (bs (fun kk => S 233 (8 + kk) = t) (S 233 0))), some (.inl b), some (.inl x)] [] S
    have b4 : 0 ≤ S 233 85 ∧ S 233 85 ≤ 9 := hB 233 85
    refine r_iload (pc' := 23) rfl rfl rfl ?_
    refine r_const (pc' := 24) rfl rfl ?_
    refine r_aload (pc' := 25) rfl rfl rfl ?_
    refine r_getr (pc' := 28) (v := 233) rfl rfl rfl rfl rfl ?_
    refine r_const (pc' := 30) rfl rfl ?_
    refine r_aldv (pc' := 31) (v := (S 233 85)) 187 rfl rfl rfl (by omega) rfl ?_
    refine r_ishl (pc' := 32) rfl rfl ?_
    have b5 := mx_shl_r 1 (S 233 85)
    by_cases h6 : x < (mx_shl 1 (S 233 85))
    · refine r_icmp_ge0 (pc' := 35) rfl rfl (by omega) (by omega) ?_
      refine r_iload (pc' := 36) rfl rfl rfl ?_
      by_cases h7 : (bs (fun kk => S 233 (8 + kk) = t) (S 233 0)) = 0
      · refine r_if_eq1 (pc' := 82) rfl rfl (by omega) (by omega) ?_
        refine r_iload (pc' := 83) rfl rfl rfl ?_
        refine q_iret rfl rfl rfl ?_
        exact ⟨by rw [if_pos (by omega)]; unfold lkM; rw [if_pos h7, i4 h7], rfl⟩
      · refine r_if_eq0 (pc' := 39) rfl rfl (by omega) (by omega) ?_
        refine r_iload (pc' := 40) rfl rfl rfl ?_
        refine r_const (pc' := 41) rfl rfl ?_
        by_cases h8 : b = (-1)
        · refine r_icmp_eq1 (pc' := 56) rfl rfl (by omega) (by omega) ?_
          refine r_iload (pc' := 57) rfl rfl rfl ?_
          refine r_aload (pc' := 58) rfl rfl rfl ?_
          refine r_iload (pc' := 60) rfl rfl rfl ?_
          refine q_callE (pc' := 63) (w := some (.inl (cbM S x))) (S2 := S) (st' := [.inl (cbM S x), .inl (bs (fun kk => S 233 (8 + kk) = t) (S 233 0))]) rfl rfl rfl (c_X11_comesBy (g := x) (S := S) hB (show 0 ≤ x ∧ x < 512 from by omega)) (by decide) rfl rfl (Nat.le_of_ble_eq_true rfl) (fun _ _ => ⟨_, _, rfl, rfl⟩) rfl rfl ?_
          refine r_const (pc' := 64) rfl rfl ?_
          refine r_ixor (pc' := 65) rfl rfl ?_
          have b9 := mx_xor_r (cbM S x) (-1)
          refine r_iand (pc' := 66) rfl rfl ?_
          have b10 := mx_and_r (bs (fun kk => S 233 (8 + kk) = t) (S 233 0)) (mx_xor (cbM S x) (-1))
          by_cases h11 : (mx_and (bs (fun kk => S 233 (8 + kk) = t) (S 233 0)) (mx_xor (cbM S x) (-1))) = 0
          · refine r_if_ne0 (pc' := 69) rfl rfl (by omega) (by omega) ?_
            refine r_iload (pc' := 71) rfl rfl rfl ?_
            refine r_goto (pc' := 75) rfl rfl ?_
            refine r_istore (pc' := 76) (ls' := [some (.inr (.inr 232)), some (.inl t), some (.inl (bs (fun kk => S 233 (8 + kk) = t) (S 233 0))), some (.inl x), some (.inl x)]) rfl rfl rfl rfl ?_
            refine r_iinc (pc' := 79) (ls' := [some (.inr (.inr 232)), some (.inl t), some (.inl (bs (fun kk => S 233 (8 + kk) = t) (S 233 0))), some (.inl x), some (.inl (x + 1))]) rfl rfl rfl rfl rfl ?_
            refine r_goto (pc' := 21) rfl rfl ?_
            exact ih21 (x, (x + 1)) (show (0 ≤ (x + 1) ∧ (x + 1) ≤ mx_shl 1 (S 233 85)) ∧ (-1 ≤ x ∧ x < 512) ∧ ((bs (fun kk => S 233 (8 + kk) = t) (S 233 0)) = 0 → x = -1) ∧ (x = fo (lsM S (bs (fun kk => S 233 (8 + kk) = t) (S 233 0))) (-1) (x + 1).toNat) from by exact ⟨by omega, by omega, fun q => absurd q (by assumption), by rw [fo_s (by omega), ← i2]; exact ((if_pos (Or.inl h8)).trans (if_pos h11)).symm⟩) (show (mx_shl 1 (S 233 85) - (x + 1)).toNat < (mx_shl 1 (S 233 85) - x).toNat from by omega)
          · refine r_if_ne1 (pc' := 74) rfl rfl (by omega) (by omega) ?_
            refine r_iload (pc' := 75) rfl rfl rfl ?_
            refine r_istore (pc' := 76) (ls' := [some (.inr (.inr 232)), some (.inl t), some (.inl (bs (fun kk => S 233 (8 + kk) = t) (S 233 0))), some (.inl b), some (.inl x)]) rfl rfl rfl rfl ?_
            refine r_iinc (pc' := 79) (ls' := [some (.inr (.inr 232)), some (.inl t), some (.inl (bs (fun kk => S 233 (8 + kk) = t) (S 233 0))), some (.inl b), some (.inl (x + 1))]) rfl rfl rfl rfl rfl ?_
            refine r_goto (pc' := 21) rfl rfl ?_
            exact ih21 (b, (x + 1)) (show (0 ≤ (x + 1) ∧ (x + 1) ≤ mx_shl 1 (S 233 85)) ∧ (-1 ≤ b ∧ b < 512) ∧ ((bs (fun kk => S 233 (8 + kk) = t) (S 233 0)) = 0 → b = -1) ∧ (b = fo (lsM S (bs (fun kk => S 233 (8 + kk) = t) (S 233 0))) (-1) (x + 1).toNat) from by exact ⟨by omega, by omega, fun q => absurd q (by assumption), by rw [fo_s (by omega), ← i2]; exact ((if_pos (Or.inl h8)).trans (if_neg h11)).symm⟩) (show (mx_shl 1 (S 233 85) - (x + 1)).toNat < (mx_shl 1 (S 233 85) - x).toNat from by omega)
        · refine r_icmp_eq0 (pc' := 44) rfl rfl (by omega) (by omega) ?_
          refine r_iload (pc' := 46) rfl rfl rfl ?_
          refine q_callE (pc' := 49) (w := some (.inl (pop x))) (S2 := S) (st' := [.inl (pop x)]) rfl rfl rfl (c_X11_bits (a := x) (S := S)  (show 0 ≤ x ∧ x < 512 from by omega)) (by decide) rfl rfl (Nat.le_of_ble_eq_true rfl) (fun q => absurd rfl q) rfl rfl ?_
          have b12 : 0 ≤ (pop x) ∧ (pop x) ≤ 9 := pop_r _
          refine r_iload (pc' := 50) rfl rfl rfl ?_
          refine q_callE (pc' := 53) (w := some (.inl (pop b))) (S2 := S) (st' := [.inl (pop b), .inl (pop x)]) rfl rfl rfl (c_X11_bits (a := b) (S := S)  (show 0 ≤ b ∧ b < 512 from by omega)) (by decide) rfl rfl (Nat.le_of_ble_eq_true rfl) (fun q => absurd rfl q) rfl rfl ?_
          have b13 : 0 ≤ (pop b) ∧ (pop b) ≤ 9 := pop_r _
          by_cases h14 : (pop x) < (pop b)
          · refine r_icmp_ge0 (pc' := 56) rfl rfl (by omega) (by omega) ?_
            refine r_iload (pc' := 57) rfl rfl rfl ?_
            refine r_aload (pc' := 58) rfl rfl rfl ?_
            refine r_iload (pc' := 60) rfl rfl rfl ?_
            refine q_callE (pc' := 63) (w := some (.inl (cbM S x))) (S2 := S) (st' := [.inl (cbM S x), .inl (bs (fun kk => S 233 (8 + kk) = t) (S 233 0))]) rfl rfl rfl (c_X11_comesBy (g := x) (S := S) hB (show 0 ≤ x ∧ x < 512 from by omega)) (by decide) rfl rfl (Nat.le_of_ble_eq_true rfl) (fun _ _ => ⟨_, _, rfl, rfl⟩) rfl rfl ?_
            refine r_const (pc' := 64) rfl rfl ?_
            refine r_ixor (pc' := 65) rfl rfl ?_
            have b15 := mx_xor_r (cbM S x) (-1)
            refine r_iand (pc' := 66) rfl rfl ?_
            have b16 := mx_and_r (bs (fun kk => S 233 (8 + kk) = t) (S 233 0)) (mx_xor (cbM S x) (-1))
            by_cases h17 : (mx_and (bs (fun kk => S 233 (8 + kk) = t) (S 233 0)) (mx_xor (cbM S x) (-1))) = 0
            · refine r_if_ne0 (pc' := 69) rfl rfl (by omega) (by omega) ?_
              refine r_iload (pc' := 71) rfl rfl rfl ?_
              refine r_goto (pc' := 75) rfl rfl ?_
              refine r_istore (pc' := 76) (ls' := [some (.inr (.inr 232)), some (.inl t), some (.inl (bs (fun kk => S 233 (8 + kk) = t) (S 233 0))), some (.inl x), some (.inl x)]) rfl rfl rfl rfl ?_
              refine r_iinc (pc' := 79) (ls' := [some (.inr (.inr 232)), some (.inl t), some (.inl (bs (fun kk => S 233 (8 + kk) = t) (S 233 0))), some (.inl x), some (.inl (x + 1))]) rfl rfl rfl rfl rfl ?_
              refine r_goto (pc' := 21) rfl rfl ?_
              exact ih21 (x, (x + 1)) (show (0 ≤ (x + 1) ∧ (x + 1) ≤ mx_shl 1 (S 233 85)) ∧ (-1 ≤ x ∧ x < 512) ∧ ((bs (fun kk => S 233 (8 + kk) = t) (S 233 0)) = 0 → x = -1) ∧ (x = fo (lsM S (bs (fun kk => S 233 (8 + kk) = t) (S 233 0))) (-1) (x + 1).toNat) from by exact ⟨by omega, by omega, fun q => absurd q (by assumption), by rw [fo_s (by omega), ← i2]; exact ((if_pos (Or.inr h14)).trans (if_pos h17)).symm⟩) (show (mx_shl 1 (S 233 85) - (x + 1)).toNat < (mx_shl 1 (S 233 85) - x).toNat from by omega)
            · refine r_if_ne1 (pc' := 74) rfl rfl (by omega) (by omega) ?_
              refine r_iload (pc' := 75) rfl rfl rfl ?_
              refine r_istore (pc' := 76) (ls' := [some (.inr (.inr 232)), some (.inl t), some (.inl (bs (fun kk => S 233 (8 + kk) = t) (S 233 0))), some (.inl b), some (.inl x)]) rfl rfl rfl rfl ?_
              refine r_iinc (pc' := 79) (ls' := [some (.inr (.inr 232)), some (.inl t), some (.inl (bs (fun kk => S 233 (8 + kk) = t) (S 233 0))), some (.inl b), some (.inl (x + 1))]) rfl rfl rfl rfl rfl ?_
              refine r_goto (pc' := 21) rfl rfl ?_
              exact ih21 (b, (x + 1)) (show (0 ≤ (x + 1) ∧ (x + 1) ≤ mx_shl 1 (S 233 85)) ∧ (-1 ≤ b ∧ b < 512) ∧ ((bs (fun kk => S 233 (8 + kk) = t) (S 233 0)) = 0 → b = -1) ∧ (b = fo (lsM S (bs (fun kk => S 233 (8 + kk) = t) (S 233 0))) (-1) (x + 1).toNat) from by exact ⟨by omega, by omega, fun q => absurd q (by assumption), by rw [fo_s (by omega), ← i2]; exact ((if_pos (Or.inr h14)).trans (if_neg h17)).symm⟩) (show (mx_shl 1 (S 233 85) - (x + 1)).toNat < (mx_shl 1 (S 233 85) - x).toNat from by omega)
          · refine r_icmp_ge1 (pc' := 76) rfl rfl (by omega) (by omega) ?_
            refine r_iinc (pc' := 79) (ls' := [some (.inr (.inr 232)), some (.inl t), some (.inl (bs (fun kk => S 233 (8 + kk) = t) (S 233 0))), some (.inl b), some (.inl (x + 1))]) rfl rfl rfl rfl rfl ?_
            refine r_goto (pc' := 21) rfl rfl ?_
            exact ih21 (b, (x + 1)) (show (0 ≤ (x + 1) ∧ (x + 1) ≤ mx_shl 1 (S 233 85)) ∧ (-1 ≤ b ∧ b < 512) ∧ ((bs (fun kk => S 233 (8 + kk) = t) (S 233 0)) = 0 → b = -1) ∧ (b = fo (lsM S (bs (fun kk => S 233 (8 + kk) = t) (S 233 0))) (-1) (x + 1).toNat) from by exact ⟨by omega, by omega, fun q => absurd q (by assumption), by rw [fo_s (by omega), ← i2]; exact (if_neg (fun q => q.elim h8 h14)).symm⟩) (show (mx_shl 1 (S 233 85) - (x + 1)).toNat < (mx_shl 1 (S 233 85) - x).toNat from by omega)
    · refine r_icmp_ge1 (pc' := 82) rfl rfl (by omega) (by omega) ?_
      refine r_iload (pc' := 83) rfl rfl rfl ?_
      refine q_iret rfl rfl rfl ?_
      exact ⟨by rw [if_pos (by omega)]; exact congrArg (fun z => some (Sum.inl z)) (lkM_e (n := x) (by omega) i4 i2), rfl⟩
  · skip
    refine q_callE (pc' := 4) (w := some (.inl 0)) (S2 := S) (st' := [.inl 0]) rfl rfl rfl (bi_neg h1 (c_X11_isTale (k := t) (S := S)  (show -2147483648 ≤ t ∧ t < 2147483648 from by omega))) (by decide) rfl rfl (Nat.le_of_ble_eq_true rfl) (fun q => absurd rfl q) rfl rfl ?_
    refine r_if_ne0 (pc' := 7) rfl rfl (by decide) (by decide) ?_
    refine r_const (pc' := 9) rfl rfl ?_
    refine q_iret rfl rfl rfl ?_
    exact ⟨by rw [if_neg (by omega)], rfl⟩
