/-! TOKENS -/
noncomputable def scf (P : Int → Prop) : Nat → Int → Int
  | 0, p => p
  | k + 1, p => @ite Int (P p) (Classical.propDecidable _) (scf P k (p + 1)) p
noncomputable def scn (P : Int → Prop) (n p : Int) : Int := scf P (n - p).toNat p
theorem scn_t {P : Int → Prop} {n p : Int} (h : p < n) (hP : P p) : scn P n p = scn P n (p + 1) := by
  unfold scn
  rw [show (n - p).toNat = (n - (p + 1)).toNat + 1 by omega]
  exact if_pos hP
theorem scn_f {P : Int → Prop} {n p : Int} (h : n ≤ p ∨ ¬ P p) : scn P n p = p := by
  unfold scn
  by_cases h2 : n ≤ p
  · rw [show (n - p).toNat = 0 by omega]; rfl
  · rw [show (n - p).toNat = (n - (p + 1)).toNat + 1 by omega]
    exact if_neg (h.resolve_left h2)
theorem scf_b (P : Int → Prop) : ∀ (k : Nat) (p : Int), p ≤ scf P k p ∧ scf P k p ≤ p + k
  | 0, p => ⟨Int.le_refl _, by show p ≤ p + 0; omega⟩
  | k + 1, p => by
    have q := scf_b P k (p + 1)
    unfold scf
    split
    · omega
    · omega
theorem scn_b (P : Int → Prop) (n p : Int) : p ≤ scn P n p ∧ (scn P n p ≤ n ∨ scn P n p = p) := by
  have q := scf_b P (n - p).toNat p
  unfold scn
  omega
theorem scf_i (P : Int → Prop) : ∀ (k : Nat) (p i : Int), p ≤ i → i < scf P k p → P i
  | 0, p, i, h1, h2 => by have h2 : i < p := h2; omega
  | k + 1, p, i, h1, h2 => by
    unfold scf at h2
    split at h2
    · rename_i hp
      by_cases e : i = p
      · subst e; exact hp
      · exact scf_i P k (p + 1) i (by omega) h2
    · omega
theorem scn_i {P : Int → Prop} {n p i : Int} (h1 : p ≤ i) (h2 : i < scn P n p) : P i := scf_i P _ p i h1 h2
noncomputable def tkB (T : Int → Int) (n e : Int) : Int := scn (fun i => T i = 32) n e
noncomputable def tkK (T : Int → Int) (n e : Int) : Int := if tkB T n e < n then srt (T (tkB T n e)) else 0
noncomputable def tkQ (T : Int → Int) (n e : Int) : Int := if tkK T n e = 0 then tkB T n e else if tkK T n e = 3 then tkB T n e + 1 else scn (fun i => srt (T i) = tkK T n e) n (tkB T n e + 1)
theorem srt_1 (c : Int) : 1 ≤ srt c ∧ srt c ≤ 3 := by unfold srt; split <;> (try split) <;> omega
theorem tkB_b (T : Int → Int) (n e : Int) : e ≤ tkB T n e ∧ (tkB T n e ≤ n ∨ tkB T n e = e) := scn_b _ n e
theorem tkK_r (T : Int → Int) (n e : Int) : 0 ≤ tkK T n e ∧ tkK T n e ≤ 3 := by
  have q := srt_1 (T (tkB T n e))
  unfold tkK; split <;> omega
theorem tkQ_b (T : Int → Int) (n e : Int) : tkB T n e ≤ tkQ T n e ∧ (tkQ T n e ≤ n ∨ tkQ T n e = tkB T n e) := by
  have q := tkB_b T n e
  have q2 := scn_b (fun i => srt (T i) = tkK T n e) n (tkB T n e + 1)
  have q3 := srt_1 (T (tkB T n e))
  by_cases h : tkB T n e < n
  · unfold tkQ
    split
    · omega
    · split
      · omega
      · omega
  · have e0 : tkK T n e = 0 := if_neg h
    unfold tkQ
    rw [if_pos e0]; omega
def tkS (S : rS) (b k q : Int) : rS := mx_up (mx_up (mx_up S 1 2 b) 1 4 k) 1 3 q
theorem tkS_o {S : rS} {b k q a j : Int} (h : ¬ (a = 1 ∧ (j = 2 ∨ j = 3 ∨ j = 4))) : tkS S b k q a j = S a j := by
  unfold tkS; rw [up_ne (by omega), up_ne (by omega), up_ne (by omega)]
theorem tkS_i {S : rS} {b p k q : Int} : mx_up (mx_up (mx_up (mx_up S 1 2 b) 1 3 p) 1 4 k) 1 3 q = tkS S b k q := by
  unfold tkS; rw [up_comm (i := 3) (j := 4) (by omega), up_up]
theorem tkS_0 {S : rS} {b p k : Int} (h : p = b) : mx_up (mx_up (mx_up S 1 2 b) 1 3 p) 1 4 k = tkS S b k b := by
  subst h; unfold tkS; rw [up_comm (i := 3) (j := 4) (by omega)]
noncomputable def stp (S : rS) : rS := tkS S (tkB (S 2) (S 1 1) (S 1 3)) (tkK (S 2) (S 1 1) (S 1 3)) (tkQ (S 2) (S 1 1) (S 1 3))
theorem stp_o {S : rS} {a j : Int} (h : ¬ (a = 1 ∧ (j = 2 ∨ j = 3 ∨ j = 4))) : stp S a j = S a j := tkS_o h
theorem Bd_stp {S : rS} (hB : Bd S) : Bd (stp S) := by
  have b1 : 0 ≤ S 1 1 ∧ S 1 1 ≤ 200 := hB 1 1
  have b3 : 0 ≤ S 1 3 ∧ S 1 3 ≤ 200 := hB 1 3
  have q1 := tkB_b (S 2) (S 1 1) (S 1 3)
  have q2 := tkK_r (S 2) (S 1 1) (S 1 3)
  have q3 := tkQ_b (S 2) (S 1 1) (S 1 3)
  unfold stp tkS
  exact Bd_up (Bd_up (Bd_up hB (show (0 : Int) ≤ _ by omega) (show _ ≤ (200 : Int) by omega)) q2.1 q2.2) (show (0 : Int) ≤ _ by omega) (show _ ≤ (200 : Int) by omega)
theorem c_X8_step {S : rS} (hB : Bd S) : CS 2 181 [.inr (.inr 1)] S (fun r' S' => r' = none ∧ S' = stp S) := by
  refine RS.beg (ls := [some (.inr (.inr 1))]) rfl rfl rfl rfl rfl ?_
  have b11 : 0 ≤ S 1 1 ∧ S 1 1 ≤ 200 := hB 1 1
  have b13 : 0 ≤ S 1 3 ∧ S 1 3 ≤ 200 := hB 1 3
  refine r_aload (pc' := 1) rfl rfl rfl ?_
  refine r_aload (pc' := 2) rfl rfl rfl ?_
  refine r_getv (pc' := 5) (v := (S 1 3)) rfl rfl (Or.inl rfl) rfl rfl ?_
  have b1 : 0 ≤ S 1 3 ∧ S 1 3 ≤ 200 := hB 1 3
  refine r_put (pc' := 8) rfl rfl rfl rfl ?_
  refine r_mem (show mx_up S 1 2 (S 1 3) = mx_up S 1 2 (S 1 3) from by rfl) ?_
  refine r_while (α := Int) (fun z' => [some (.inr (.inr 1))]) (fun z' => mx_up S 1 2 z') (fun z' => (S 1 3 ≤ z' ∧ (z' ≤ S 1 1 ∨ z' = S 1 3)) ∧ (scn (fun kk => S 2 kk = 32) (S 1 1) z' = tkB (S 2) (S 1 1) (S 1 3))) (fun z' => (S 1 1 - z').toNat) ?_ (S 1 3) (show (S 1 3 ≤ (S 1 3) ∧ ((S 1 3) ≤ S 1 1 ∨ (S 1 3) = S 1 3)) ∧ (scn (fun kk => S 2 kk = 32) (S 1 1) (S 1 3) = tkB (S 2) (S 1 1) (S 1 3)) from by exact ⟨by omega, rfl⟩)
  rintro p hI' ih8
  have hI' : (S 1 3 ≤ p ∧ (p ≤ S 1 1 ∨ p = S 1 3)) ∧ (scn (fun kk => S 2 kk = 32) (S 1 1) p = tkB (S 2) (S 1 1) (S 1 3)) := hI'
  obtain ⟨i1, i2⟩ := hI'
  show RS _ _ _ _ [some (.inr (.inr 1))] [] (mx_up S 1 2 p)
  have b2 : 0 ≤ S 1 1 ∧ S 1 1 ≤ 200 := hB 1 1
  refine r_aload (pc' := 9) rfl rfl rfl ?_
  refine r_getv (pc' := 12) (v := p) rfl rfl (Or.inl rfl) rfl rfl ?_
  refine r_aload (pc' := 13) rfl rfl rfl ?_
  refine r_getv (pc' := 16) (v := (S 1 1)) rfl rfl (Or.inl rfl) rfl rfl ?_
  by_cases h3 : p < (S 1 1)
  · refine r_icmp_ge0 (pc' := 19) rfl rfl (by omega) (by omega) ?_
    refine r_aload (pc' := 20) rfl rfl rfl ?_
    refine r_getr (pc' := 23) (v := 2) rfl rfl rfl rfl rfl ?_
    refine r_aload (pc' := 24) rfl rfl rfl ?_
    refine r_getv (pc' := 27) (v := p) rfl rfl (Or.inl rfl) rfl rfl ?_
    refine r_aldv (pc' := 28) (v := (S 2 p)) 200 rfl rfl rfl (by omega) rfl ?_
    have b4 : 0 ≤ S 2 p ∧ S 2 p ≤ 255 := hB 2 p
    refine r_const (pc' := 30) rfl rfl ?_
    by_cases h5 : (S 2 p) = 32
    · refine r_icmp_ne0 (pc' := 33) rfl rfl (by omega) (by omega) ?_
      refine r_aload (pc' := 34) rfl rfl rfl ?_
      refine r_dupr (pc' := 35) rfl rfl ?_
      refine r_getv (pc' := 38) (v := p) rfl rfl (Or.inl rfl) rfl rfl ?_
      refine r_const (pc' := 39) rfl rfl ?_
      refine r_iadd (pc' := 40) rfl rfl ?_
      refine r_put (pc' := 43) rfl rfl rfl rfl ?_
      refine r_goto (pc' := 8) rfl rfl ?_
      refine r_mem (show mx_up (mx_up S 1 2 p) 1 2 (p + 1) = mx_up S 1 2 (p + 1) from by exact up_up) ?_
      exact ih8 (p + 1) (show (S 1 3 ≤ (p + 1) ∧ ((p + 1) ≤ S 1 1 ∨ (p + 1) = S 1 3)) ∧ (scn (fun kk => S 2 kk = 32) (S 1 1) (p + 1) = tkB (S 2) (S 1 1) (S 1 3)) from by exact ⟨by omega, by rw [← i2]; exact (scn_t (P := fun kk => S 2 kk = 32) (by omega) h5).symm⟩) (show (S 1 1 - (p + 1)).toNat < (S 1 1 - p).toNat from by omega)
    · refine r_icmp_ne1 (pc' := 46) rfl rfl (by omega) (by omega) ?_
      refine r_aload (pc' := 47) rfl rfl rfl ?_
      refine r_aload (pc' := 48) rfl rfl rfl ?_
      refine r_getv (pc' := 51) (v := p) rfl rfl (Or.inl rfl) rfl rfl ?_
      refine r_put (pc' := 54) rfl rfl rfl rfl ?_
      refine r_aload (pc' := 55) rfl rfl rfl ?_
      refine r_aload (pc' := 56) rfl rfl rfl ?_
      refine r_getv (pc' := 59) (v := p) rfl rfl (Or.inl rfl) rfl rfl ?_
      refine r_aload (pc' := 60) rfl rfl rfl ?_
      refine r_getv (pc' := 63) (v := (S 1 1)) rfl rfl (Or.inl rfl) rfl rfl ?_
      refine r_icmp_ge0 (pc' := 66) rfl rfl (by omega) (by omega) ?_
      refine r_aload (pc' := 67) rfl rfl rfl ?_
      refine r_getr (pc' := 70) (v := 2) rfl rfl rfl rfl rfl ?_
      refine r_aload (pc' := 71) rfl rfl rfl ?_
      refine r_getv (pc' := 74) (v := p) rfl rfl (Or.inl rfl) rfl rfl ?_
      refine r_aldv (pc' := 75) (v := (S 2 p)) 200 rfl rfl rfl (by omega) rfl ?_
      refine q_callE (pc' := 78) (w := some (.inl (srt (S 2 p)))) (S2 := mx_up (mx_up S 1 2 p) 1 3 p) (st' := [.inl (srt (S 2 p)), .inr (.inr 1)]) rfl rfl rfl (c_X8_sortOf (c := (S 2 p)) (S := mx_up (mx_up S 1 2 p) 1 3 p)  (show -2147483648 ≤ (S 2 p) ∧ (S 2 p) < 2147483648 from by omega)) (by decide) rfl rfl (Nat.le_of_ble_eq_true rfl) (fun q => absurd rfl q) rfl rfl ?_
      have b6 : 0 ≤ (srt (S 2 p)) ∧ (srt (S 2 p)) ≤ 3 := srt_r _
      refine r_goto (pc' := 82) rfl rfl ?_
      refine r_put (pc' := 85) rfl rfl rfl rfl ?_
      refine r_aload (pc' := 86) rfl rfl rfl ?_
      refine r_getv (pc' := 89) (v := (srt (S 2 p))) rfl rfl (Or.inl rfl) rfl rfl ?_
      by_cases h7 : (srt (S 2 p)) = 0
      · refine r_if_ne0 (pc' := 92) rfl rfl (by omega) (by omega) ?_
        refine q_vret rfl rfl rfl ?_
        exfalso; have := srt_1 (S 2 p); omega
      · refine r_if_ne1 (pc' := 93) rfl rfl (by omega) (by omega) ?_
        refine r_aload (pc' := 94) rfl rfl rfl ?_
        refine r_dupr (pc' := 95) rfl rfl ?_
        refine r_getv (pc' := 98) (v := p) rfl rfl (Or.inl rfl) rfl rfl ?_
        refine r_const (pc' := 99) rfl rfl ?_
        refine r_iadd (pc' := 100) rfl rfl ?_
        refine r_put (pc' := 103) rfl rfl rfl rfl ?_
        have hb : p = tkB (S 2) (S 1 1) (S 1 3) := by rw [← i2]; exact (scn_f (P := fun kk => S 2 kk = 32) (Or.inr h5)).symm
        refine r_mem (show mx_up (mx_up (mx_up (mx_up S 1 2 p) 1 3 p) 1 4 (srt (S 2 p))) 1 3 (p + 1) = mx_up (mx_up (mx_up S 1 2 p) 1 4 (srt (S 2 p))) 1 3 (p + 1) from by exact tkS_i) ?_
        refine r_while (α := Int) (fun z' => [some (.inr (.inr 1))]) (fun z' => mx_up (mx_up (mx_up S 1 2 p) 1 4 (srt (S 2 p))) 1 3 z') (fun z' => (p + 1 ≤ z' ∧ (z' ≤ S 1 1 ∨ z' = p + 1)) ∧ (srt (S 2 p) ≠ 3 → scn (fun kk => srt (S 2 kk) = srt (S 2 p)) (S 1 1) z' = scn (fun kk => srt (S 2 kk) = srt (S 2 p)) (S 1 1) (p + 1)) ∧ (srt (S 2 p) = 3 → z' = p + 1)) (fun z' => (S 1 1 - z').toNat) ?_ (p + 1) (show (p + 1 ≤ (p + 1) ∧ ((p + 1) ≤ S 1 1 ∨ (p + 1) = p + 1)) ∧ (srt (S 2 p) ≠ 3 → scn (fun kk => srt (S 2 kk) = srt (S 2 p)) (S 1 1) (p + 1) = scn (fun kk => srt (S 2 kk) = srt (S 2 p)) (S 1 1) (p + 1)) ∧ (srt (S 2 p) = 3 → (p + 1) = p + 1) from by exact ⟨by omega, fun _ => rfl, fun _ => rfl⟩)
        rintro q hI' ih103
        have hI' : (p + 1 ≤ q ∧ (q ≤ S 1 1 ∨ q = p + 1)) ∧ (srt (S 2 p) ≠ 3 → scn (fun kk => srt (S 2 kk) = srt (S 2 p)) (S 1 1) q = scn (fun kk => srt (S 2 kk) = srt (S 2 p)) (S 1 1) (p + 1)) ∧ (srt (S 2 p) = 3 → q = p + 1) := hI'
        obtain ⟨i4, i5, i6⟩ := hI'
        show RS _ _ _ _ [some (.inr (.inr 1))] [] (mx_up (mx_up (mx_up S 1 2 p) 1 4 (srt (S 2 p))) 1 3 q)
        refine r_aload (pc' := 104) rfl rfl rfl ?_
        refine r_getv (pc' := 107) (v := (srt (S 2 p))) rfl rfl (Or.inl rfl) rfl rfl ?_
        refine r_const (pc' := 108) rfl rfl ?_
        by_cases h8 : (srt (S 2 p)) = 3
        · refine r_icmp_eq1 (pc' := 154) rfl rfl (by omega) (by omega) ?_
          refine q_vret rfl rfl rfl ?_
          have hk : tkK (S 2) (S 1 1) (S 1 3) = srt (S 2 p) := by unfold tkK; rw [← hb, if_pos (by omega)]
          have hs := srt_1 (S 2 p)
          have hq : tkQ (S 2) (S 1 1) (S 1 3) = q := by
            unfold tkQ
            rw [if_neg (by omega)]
            by_cases h3 : srt (S 2 p) = 3
            · rw [if_pos (by omega), ← hb]; exact (i6 h3).symm
            · exact absurd h8 h3
          exact ⟨rfl, by unfold stp; rw [hk, hq, ← hb]; rfl⟩
        · refine r_icmp_eq0 (pc' := 111) rfl rfl (by omega) (by omega) ?_
          refine r_aload (pc' := 112) rfl rfl rfl ?_
          refine r_getv (pc' := 115) (v := q) rfl rfl (Or.inl rfl) rfl rfl ?_
          refine r_aload (pc' := 116) rfl rfl rfl ?_
          refine r_getv (pc' := 119) (v := (S 1 1)) rfl rfl (Or.inl rfl) rfl rfl ?_
          by_cases h9 : q < (S 1 1)
          · refine r_icmp_ge0 (pc' := 122) rfl rfl (by omega) (by omega) ?_
            refine r_aload (pc' := 123) rfl rfl rfl ?_
            refine r_getr (pc' := 126) (v := 2) rfl rfl rfl rfl rfl ?_
            refine r_aload (pc' := 127) rfl rfl rfl ?_
            refine r_getv (pc' := 130) (v := q) rfl rfl (Or.inl rfl) rfl rfl ?_
            refine r_aldv (pc' := 131) (v := (S 2 q)) 200 rfl rfl rfl (by omega) rfl ?_
            have b10 : 0 ≤ S 2 q ∧ S 2 q ≤ 255 := hB 2 q
            refine q_callE (pc' := 134) (w := some (.inl (srt (S 2 q)))) (S2 := mx_up (mx_up (mx_up S 1 2 p) 1 4 (srt (S 2 p))) 1 3 q) (st' := [.inl (srt (S 2 q))]) rfl rfl rfl (c_X8_sortOf (c := (S 2 q)) (S := mx_up (mx_up (mx_up S 1 2 p) 1 4 (srt (S 2 p))) 1 3 q)  (show -2147483648 ≤ (S 2 q) ∧ (S 2 q) < 2147483648 from by omega)) (by decide) rfl rfl (Nat.le_of_ble_eq_true rfl) (fun q => absurd rfl q) rfl rfl ?_
            have b11 : 0 ≤ (srt (S 2 q)) ∧ (srt (S 2 q)) ≤ 3 := srt_r _
            refine r_aload (pc' := 135) rfl rfl rfl ?_
            refine r_getv (pc' := 138) (v := (srt (S 2 p))) rfl rfl (Or.inl rfl) rfl rfl ?_
            by_cases h12 : (srt (S 2 q)) = (srt (S 2 p))
            · refine r_icmp_ne0 (pc' := 141) rfl rfl (by omega) (by omega) ?_
              refine r_aload (pc' := 142) rfl rfl rfl ?_
              refine r_dupr (pc' := 143) rfl rfl ?_
              refine r_getv (pc' := 146) (v := q) rfl rfl (Or.inl rfl) rfl rfl ?_
              refine r_const (pc' := 147) rfl rfl ?_
              refine r_iadd (pc' := 148) rfl rfl ?_
              refine r_put (pc' := 151) rfl rfl rfl rfl ?_
              refine r_goto (pc' := 103) rfl rfl ?_
              refine r_mem (show mx_up (mx_up (mx_up (mx_up S 1 2 p) 1 4 (srt (S 2 p))) 1 3 q) 1 3 (q + 1) = mx_up (mx_up (mx_up S 1 2 p) 1 4 (srt (S 2 p))) 1 3 (q + 1) from by exact up_up) ?_
              exact ih103 (q + 1) (show (p + 1 ≤ (q + 1) ∧ ((q + 1) ≤ S 1 1 ∨ (q + 1) = p + 1)) ∧ (srt (S 2 p) ≠ 3 → scn (fun kk => srt (S 2 kk) = srt (S 2 p)) (S 1 1) (q + 1) = scn (fun kk => srt (S 2 kk) = srt (S 2 p)) (S 1 1) (p + 1)) ∧ (srt (S 2 p) = 3 → (q + 1) = p + 1) from by exact ⟨by omega, fun z => by rw [← i5 z]; exact (scn_t (P := fun kk => srt (S 2 kk) = srt (S 2 p)) (by omega) h12).symm, fun z => absurd z h8⟩) (show (S 1 1 - (q + 1)).toNat < (S 1 1 - q).toNat from by omega)
            · refine r_icmp_ne1 (pc' := 154) rfl rfl (by omega) (by omega) ?_
              refine q_vret rfl rfl rfl ?_
              have hk : tkK (S 2) (S 1 1) (S 1 3) = srt (S 2 p) := by unfold tkK; rw [← hb, if_pos (by omega)]
              have hs := srt_1 (S 2 p)
              have hq : tkQ (S 2) (S 1 1) (S 1 3) = q := by
                unfold tkQ
                rw [if_neg (by omega)]
                by_cases h3 : srt (S 2 p) = 3
                · rw [if_pos (by omega), ← hb]; exact (i6 h3).symm
                · rw [if_neg (by omega), ← hb, hk, ← i5 h3]; exact scn_f (P := fun kk => srt (S 2 kk) = srt (S 2 p)) (Or.inr h12)
              exact ⟨rfl, by unfold stp; rw [hk, hq, ← hb]; rfl⟩
          · refine r_icmp_ge1 (pc' := 154) rfl rfl (by omega) (by omega) ?_
            refine q_vret rfl rfl rfl ?_
            have hk : tkK (S 2) (S 1 1) (S 1 3) = srt (S 2 p) := by unfold tkK; rw [← hb, if_pos (by omega)]
            have hs := srt_1 (S 2 p)
            have hq : tkQ (S 2) (S 1 1) (S 1 3) = q := by
              unfold tkQ
              rw [if_neg (by omega)]
              by_cases h3 : srt (S 2 p) = 3
              · rw [if_pos (by omega), ← hb]; exact (i6 h3).symm
              · rw [if_neg (by omega), ← hb, hk, ← i5 h3]; exact scn_f (P := fun kk => srt (S 2 kk) = srt (S 2 p)) (Or.inl (by omega))
            exact ⟨rfl, by unfold stp; rw [hk, hq, ← hb]; rfl⟩
  · refine r_icmp_ge1 (pc' := 46) rfl rfl (by omega) (by omega) ?_
    refine r_aload (pc' := 47) rfl rfl rfl ?_
    refine r_aload (pc' := 48) rfl rfl rfl ?_
    refine r_getv (pc' := 51) (v := p) rfl rfl (Or.inl rfl) rfl rfl ?_
    refine r_put (pc' := 54) rfl rfl rfl rfl ?_
    refine r_aload (pc' := 55) rfl rfl rfl ?_
    refine r_aload (pc' := 56) rfl rfl rfl ?_
    refine r_getv (pc' := 59) (v := p) rfl rfl (Or.inl rfl) rfl rfl ?_
    refine r_aload (pc' := 60) rfl rfl rfl ?_
    refine r_getv (pc' := 63) (v := (S 1 1)) rfl rfl (Or.inl rfl) rfl rfl ?_
    refine r_icmp_ge1 (pc' := 81) rfl rfl (by omega) (by omega) ?_
    refine r_const (pc' := 82) rfl rfl ?_
    refine r_put (pc' := 85) rfl rfl rfl rfl ?_
    refine r_aload (pc' := 86) rfl rfl rfl ?_
    refine r_getv (pc' := 89) (v := 0) rfl rfl (Or.inl rfl) rfl rfl ?_
    refine r_if_ne0 (pc' := 92) rfl rfl (by decide) (by decide) ?_
    refine q_vret rfl rfl rfl ?_
    have hb : p = tkB (S 2) (S 1 1) (S 1 3) := by rw [← i2]; exact (scn_f (P := fun kk => S 2 kk = 32) (Or.inl (by omega))).symm
    have hk : tkK (S 2) (S 1 1) (S 1 3) = 0 := by unfold tkK; rw [if_neg (by omega)]
    have hq : tkQ (S 2) (S 1 1) (S 1 3) = tkB (S 2) (S 1 1) (S 1 3) := by unfold tkQ; rw [if_pos hk]
    exact ⟨rfl, by unfold stp; rw [hk, hq, ← hb]; exact tkS_0 rfl⟩
theorem c_X8_begin {S : rS} (hB : Bd S) : CS 3 176 [.inr (.inr 1)] S (fun r' S' => r' = none ∧ S' = stp (mx_up S 1 3 0)) := by
  refine RS.beg (ls := [some (.inr (.inr 1))]) rfl rfl rfl rfl rfl ?_
  refine r_aload (pc' := 1) rfl rfl rfl ?_
  refine r_const (pc' := 2) rfl rfl ?_
  refine r_put (pc' := 5) rfl rfl rfl rfl ?_
  refine r_aload (pc' := 6) rfl rfl rfl ?_
  refine q_callE (pc' := 9) (w := none) (S2 := stp (mx_up S 1 3 0)) (st' := []) rfl rfl rfl (c_X8_step  (S := mx_up S 1 3 0) (Bd_up hB (show (0 : Int) ≤ 0 from by omega) (show 0 ≤ (200 : Int) from by omega)) ) (by decide) rfl rfl (Nat.le_of_ble_eq_true rfl) (fun _ _ => ⟨_, _, rfl, rfl⟩) rfl rfl ?_
  have hB1 : Bd (stp (mx_up S 1 3 0)) := Bd_stp (Bd_up hB (show (0 : Int) ≤ 0 from by omega) (show 0 ≤ (200 : Int) from by omega))
  refine q_vret rfl rfl rfl ?_
  exact ⟨rfl, rfl⟩
/-- the number that a token is -/
def vl2 (T : Int → Int) (b m : Int) : Int := fo (fun i v => 10 * v + T (b + i) - 48) 0 m.toNat
theorem vl2_b {T : Int → Int} (hT : ∀ i, 0 ≤ T i ∧ T i ≤ 255) {b m : Int} (hm : m ≤ 2) : -600 ≤ vl2 T b m ∧ vl2 T b m ≤ 3000 := by
  unfold vl2
  have t0 := hT (b + 0)
  have t1 := hT (b + 1)
  rcases (show m.toNat = 0 ∨ m.toNat = 1 ∨ m.toNat = 2 by omega) with e | e | e <;> rw [e]
  · show -600 ≤ (0 : Int) ∧ (0 : Int) ≤ 3000; omega
  · show -600 ≤ 10 * 0 + T (b + 0) - 48 ∧ 10 * 0 + T (b + 0) - 48 ≤ 3000; omega
  · show -600 ≤ 10 * (10 * 0 + T (b + 0) - 48) + T (b + 1) - 48 ∧ 10 * (10 * 0 + T (b + 0) - 48) + T (b + 1) - 48 ≤ 3000; omega
def valc (S : rS) : Int := if S 1 4 = 2 then if 2 < S 1 3 - S 1 2 then -1 else vl2 (S 2) (S 1 2) (S 1 3 - S 1 2) else -1
theorem valc_b {S : rS} (hB : Bd S) : -600 ≤ valc S ∧ valc S ≤ 3000 := by
  unfold valc
  split
  · split
    · omega
    · exact vl2_b (fun i => hB 2 i) (by omega)
  · omega
theorem c_X8_value {S : rS} (hB : Bd S) (h_t : (0 ≤ S 1 2 ∧ S 1 2 ≤ S 1 3) ∧ S 1 3 ≤ 200) : CS 1 182 [.inr (.inr 1)] S (fun r' S' => r' = some (.inl (valc S)) ∧ S' = S) := by
  refine RS.beg (ls := [some (.inr (.inr 1)), none, none]) rfl rfl rfl rfl rfl ?_
  refine r_aload (pc' := 1) rfl rfl rfl ?_
  refine r_getv (pc' := 4) (v := (S 1 4)) rfl rfl (Or.inl rfl) rfl rfl ?_
  have b1 : 0 ≤ S 1 4 ∧ S 1 4 ≤ 3 := hB 1 4
  refine r_const (pc' := 5) rfl rfl ?_
  by_cases h2 : (S 1 4) = 2
  · refine r_icmp_ne0 (pc' := 8) rfl rfl (by omega) (by omega) ?_
    refine r_aload (pc' := 9) rfl rfl rfl ?_
    refine r_getv (pc' := 12) (v := (S 1 3)) rfl rfl (Or.inl rfl) rfl rfl ?_
    have b3 : 0 ≤ S 1 3 ∧ S 1 3 ≤ 200 := hB 1 3
    refine r_aload (pc' := 13) rfl rfl rfl ?_
    refine r_getv (pc' := 16) (v := (S 1 2)) rfl rfl (Or.inl rfl) rfl rfl ?_
    have b4 : 0 ≤ S 1 2 ∧ S 1 2 ≤ 200 := hB 1 2
    refine r_isub (pc' := 17) rfl rfl ?_
    refine r_const (pc' := 18) rfl rfl ?_
    by_cases h5 : 2 < ((S 1 3) - (S 1 2))
    · refine r_icmp_le0 (pc' := 21) rfl rfl (by omega) (by omega) ?_
      refine r_const (pc' := 22) rfl rfl ?_
      refine q_iret rfl rfl rfl ?_
      exact ⟨by unfold valc; rw [if_pos h2, if_pos h5], rfl⟩
    · refine r_icmp_le1 (pc' := 23) rfl rfl (by omega) (by omega) ?_
      refine r_const (pc' := 24) rfl rfl ?_
      refine r_istore (pc' := 25) (ls' := [some (.inr (.inr 1)), some (.inl 0), none]) rfl rfl rfl rfl ?_
      refine r_aload (pc' := 26) rfl rfl rfl ?_
      refine r_getv (pc' := 29) (v := (S 1 2)) rfl rfl (Or.inl rfl) rfl rfl ?_
      refine r_istore (pc' := 30) (ls' := [some (.inr (.inr 1)), some (.inl 0), some (.inl (S 1 2))]) rfl rfl rfl rfl ?_
      refine r_while (α := Int × Int) (fun z' => [some (.inr (.inr 1)), some (.inl z'.1), some (.inl z'.2)]) (fun z' => S) (fun z' => (S 1 2 ≤ z'.2 ∧ z'.2 ≤ S 1 3) ∧ (z'.1 = vl2 (S 2) (S 1 2) (z'.2 - S 1 2))) (fun z' => (S 1 3 - z'.2).toNat) ?_ (0, (S 1 2)) (show (S 1 2 ≤ (S 1 2) ∧ (S 1 2) ≤ S 1 3) ∧ ((0 : Int) = vl2 (S 2) (S 1 2) ((S 1 2) - S 1 2)) from by exact ⟨by omega, by rw [show S 1 2 - S 1 2 = 0 by omega]; rfl⟩)
      rintro ⟨v, i⟩ hI' ih30
      have hI' : (S 1 2 ≤ i ∧ i ≤ S 1 3) ∧ (v = vl2 (S 2) (S 1 2) (i - S 1 2)) := hI'
      obtain ⟨i1, i2⟩ := hI'
      show RS _ _ _ _ [some (.inr (.inr 1)), some (.inl v), some (.inl i)] [] S
      refine r_iload (pc' := 31) rfl rfl rfl ?_
      refine r_aload (pc' := 32) rfl rfl rfl ?_
      refine r_getv (pc' := 35) (v := (S 1 3)) rfl rfl (Or.inl rfl) rfl rfl ?_
      by_cases h6 : i < (S 1 3)
      · refine r_icmp_ge0 (pc' := 38) rfl rfl (by omega) (by omega) ?_
        refine r_const (pc' := 40) rfl rfl ?_
        refine r_iload (pc' := 41) rfl rfl rfl ?_
        refine r_imul (pc' := 42) rfl rfl ?_
        refine r_aload (pc' := 43) rfl rfl rfl ?_
        refine r_getr (pc' := 46) (v := 2) rfl rfl rfl rfl rfl ?_
        refine r_iload (pc' := 47) rfl rfl rfl ?_
        refine r_aldv (pc' := 48) (v := (S 2 i)) 200 rfl rfl rfl (by omega) rfl ?_
        have b7 : 0 ≤ S 2 i ∧ S 2 i ≤ 255 := hB 2 i
        refine r_iadd (pc' := 49) rfl rfl ?_
        refine r_const (pc' := 51) rfl rfl ?_
        refine r_isub (pc' := 52) rfl rfl ?_
        refine r_istore (pc' := 53) (ls' := [some (.inr (.inr 1)), some (.inl (((10 * v) + (S 2 i)) - 48)), some (.inl i)]) rfl rfl rfl rfl ?_
        refine r_iinc (pc' := 56) (ls' := [some (.inr (.inr 1)), some (.inl (((10 * v) + (S 2 i)) - 48)), some (.inl (i + 1))]) rfl rfl rfl rfl rfl ?_
        refine r_goto (pc' := 30) rfl rfl ?_
        exact ih30 ((((10 * v) + (S 2 i)) - 48), (i + 1)) (show (S 1 2 ≤ (i + 1) ∧ (i + 1) ≤ S 1 3) ∧ ((((10 * v) + (S 2 i)) - 48) = vl2 (S 2) (S 1 2) ((i + 1) - S 1 2)) from by exact ⟨by omega, by unfold vl2; rw [show i + 1 - S 1 2 = i - S 1 2 + 1 by omega, fo_s (by omega), show S 1 2 + (i - S 1 2) = i by omega, i2]; rfl⟩) (show (S 1 3 - (i + 1)).toNat < (S 1 3 - i).toNat from by omega)
      · refine r_icmp_ge1 (pc' := 59) rfl rfl (by omega) (by omega) ?_
        refine r_iload (pc' := 60) rfl rfl rfl ?_
        refine q_iret rfl rfl rfl ?_
        exact ⟨by unfold valc; rw [if_pos h2, if_neg h5, i2]; unfold vl2; rw [show (i - S 1 2).toNat = (S 1 3 - S 1 2).toNat by omega], rfl⟩
  · refine r_icmp_ne1 (pc' := 21) rfl rfl (by omega) (by omega) ?_
    refine r_const (pc' := 22) rfl rfl ?_
    refine q_iret rfl rfl rfl ?_
    exact ⟨by unfold valc; rw [if_neg h2], rfl⟩
