/-- the first of a property -/
noncomputable def fs1 (P : Int → Prop) : Int → Int → Int := fun k r => @ite Int (r = -1 ∧ P k) (Classical.propDecidable _) k r
noncomputable def fst1 (P : Int → Prop) (n : Int) : Int := fo (fs1 P) (-1) n.toNat
theorem fs1_t {P : Int → Prop} {k : Int} (h : P k) : fs1 P k (-1) = k := if_pos ⟨rfl, h⟩
theorem fs1_f {P : Int → Prop} {k : Int} (h : ¬ P k) : fs1 P k (-1) = -1 := if_neg (fun q => h q.2)
theorem fst1_t {P : Int → Prop} {f n : Int} (h0 : 0 ≤ f) (h : fo (fs1 P) (-1) f.toNat = -1) (hP : P f) (hn : f < n) : fst1 P n = f :=
  fo_stop (f := fs1 P) (a := -1) (z := f) (n := (f + 1).toNat) (by rw [fo_s h0, h]; exact fs1_t hP) (fun k => if_neg (fun q => absurd q.1 (by omega))) n.toNat (by omega)
/-- what canGoOn answers -/
def cgE (S : rS) (d a m : Int) : Prop := ∃ xx, (d ≤ xx ∧ xx ≤ S 85 3) ∧ cgo S d a m xx
theorem cgE_fl {S : rS} (hB : Bd S) {g : Int → Int} {n d a m : Int} (hd : 0 ≤ d) : (∃ xx, (d ≤ xx ∧ xx ≤ fl S 86 g n 85 3) ∧ cgo (fl S 86 g n) d a m xx) ↔ cgE S d a m := by
  have e : ∀ a j : Int, ¬ a = 86 → fl S 86 g n a j = S a j := fun a j h => fl_o h
  have b : 0 ≤ S 85 3 ∧ S 85 3 ≤ 127 := hB 85 3
  unfold cgE
  rw [e 85 3 (by omega)]
  constructor
  · rintro ⟨x, h1, h2⟩
    refine ⟨x, h1, ?_⟩
    have q := and_u (a := x) (b := mx_xor d (-1)) 7 (by omega) (by omega) (by omega)
    unfold cgo at h2 ⊢
    rw [e 218 x (by omega), e 85 2 (by omega), e 85 1 (by omega), e 25 13 (by omega), e _ a (by omega)] at h2
    exact h2
  · rintro ⟨x, h1, h2⟩
    refine ⟨x, h1, ?_⟩
    have q := and_u (a := x) (b := mx_xor d (-1)) 7 (by omega) (by omega) (by omega)
    unfold cgo at h2 ⊢
    rw [e 218 x (by omega), e 85 2 (by omega), e 85 1 (by omega), e 25 13 (by omega), e _ a (by omega)]
    exact h2
def gon (S : rS) (z : Int × Int × Int) (f : Int) : Prop := ¬ tb z.1 f ∧ cgE S (mx_or z.1 (mx_shl 1 f)) f (z.2.2 + S (52 + z.2.1) f + S 88 f)
noncomputable def lfs (S : rS) (z : Int × Int × Int) : Int := fst1 (gon S z) (S 25 0)
noncomputable def lnx (S : rS) (z : Int × Int × Int) : Int × Int × Int := if lfs S z = -1 then z else (mx_or z.1 (mx_shl 1 (lfs S z)), lfs S z, z.2.2 + S (52 + z.2.1) (lfs S z) + S 88 (lfs S z))
noncomputable def lst (S : rS) (k : Int) : Int × Int × Int := fo (fun _ z => lnx S z) (0, S 59 4, S 59 2) k.toNat
noncomputable def rowf (S : rS) (k : Int) : Int := if lfs S (lst S k) = -1 then S 86 k else lfs S (lst S k)
theorem lst_s {S : rS} {k : Int} (h : 0 ≤ k) : lst S (k + 1) = lnx S (lst S k) := fo_s h
theorem lst_t {S : rS} {k f d a m : Int} (hk : 0 ≤ k) (h : lst S k = (d, a, m)) (hf : 0 ≤ f ∧ f < S 25 0) (h1 : fo (fs1 (gon S (d, a, m))) (-1) f.toNat = -1) (h2 : gon S (d, a, m) f) : lst S (k + 1) = (mx_or d (mx_shl 1 f), f, m + S (52 + a) f + S 88 f) ∧ f = rowf S k := by
  have e : lfs S (d, a, m) = f := fst1_t hf.1 h1 h2 hf.2
  unfold rowf
  rw [lst_s hk, h]
  unfold lnx
  rw [e, if_neg (by omega), if_neg (by omega)]
  exact ⟨rfl, rfl⟩
theorem lst_f {S : rS} {k d a m : Int} (hk : 0 ≤ k) (h : lst S k = (d, a, m)) (h1 : fo (fs1 (gon S (d, a, m))) (-1) (S 25 0).toNat = -1) : lst S (k + 1) = (d, a, m) ∧ S 86 k = rowf S k := by
  have e : lfs S (d, a, m) = -1 := h1
  unfold rowf
  rw [lst_s hk, h]
  unfold lnx
  rw [e, if_pos rfl, if_pos rfl]
  exact ⟨rfl, rfl⟩
theorem fl_n {S : rS} {A k : Int} {g : Int → Int} (h : S A k = g k) : fl S A g k = fl S A g (k + 1) := by
  funext a j; unfold fl
  by_cases h1 : a = A ∧ 0 ≤ j ∧ j < k
  · rw [if_pos h1, if_pos (by omega)]
  · rw [if_neg h1]
    by_cases h2 : a = A ∧ 0 ≤ j ∧ j < k + 1
    · rw [if_pos h2, h2.1, show j = k by omega]; exact h
    · rw [if_neg h2]
theorem fst1_b {P : Int → Prop} {n : Nat} : -1 ≤ fst1 P n ∧ fst1 P n < n ∨ fst1 P n = -1 := by
  have := fo_ind (f := fs1 P) (a := (-1 : Int)) (fun k z => -1 ≤ z ∧ z < k ∨ z = -1) (Or.inr rfl) (N := n) (fun k z k0 k1 hz => by
    unfold fs1
    split <;> omega) n (Nat.le_refl _)
  exact this
theorem rowf_b {S : rS} (hB : Bd S) (k : Int) : 0 ≤ rowf S k ∧ rowf S k ≤ 6 := by
  have b : 0 ≤ S 25 0 ∧ S 25 0 ≤ 7 := hB 25 0
  have b2 : 0 ≤ S 86 k ∧ S 86 k ≤ 6 := hB 86 k
  have q := fst1_b (P := gon S (lst S k)) (n := (S 25 0).toNat)
  rw [show (((S 25 0).toNat : Nat) : Int) = S 25 0 from Int.toNat_of_nonneg b.1] at q
  unfold rowf
  split
  · exact b2
  · have : lfs S (lst S k) = fst1 (gon S (lst S k)) (S 25 0) := rfl
    omega
noncomputable def lay (S : rS) : rS := fl S 86 (rowf S) (S 85 1)
theorem lay_o {S : rS} {a j : Int} (h : ¬ a = 86) : lay S a j = S a j := fl_o h
theorem Bd_lay {S : rS} (hB : Bd S) : Bd (lay S) := Bd_fl hB (fun k _ _ => rowf_b hB k)
theorem c_X9_layRow {S : rS} (hB : Bd S) : CS 3 190 [.inr (.inr 85), .inr (.inr 25), .inr (.inr 59)] S (fun r' S' => r' = none ∧ S' = lay S) := by
  refine RS.beg (ls := [some (.inr (.inr 85)), some (.inr (.inr 25)), some (.inr (.inr 59)), none, none, none, none, none, none]) rfl rfl rfl rfl rfl ?_
  have b0 : 0 ≤ S 25 0 ∧ S 25 0 ≤ 7 := hB 25 0
  have b85 : 0 ≤ S 85 3 ∧ S 85 3 ≤ 127 := hB 85 3
  have b594 : 0 ≤ S 59 4 ∧ S 59 4 ≤ 6 := hB 59 4
  have b591 : 0 ≤ S 59 1 ∧ S 59 1 ≤ 127 := hB 59 1
  have b592 : 0 ≤ S 59 2 ∧ S 59 2 ≤ 99 := hB 59 2
  have b593 : 0 ≤ S 59 3 ∧ S 59 3 ≤ 999 := hB 59 3
  have b1 : 0 ≤ S 25 13 ∧ S 25 13 ≤ 99 := hB 25 13
  have b851 : 0 ≤ S 85 1 ∧ S 85 1 ≤ 7 := hB 85 1
  refine r_const (pc' := 1) rfl rfl ?_
  refine r_istore (pc' := 2) (ls' := [some (.inr (.inr 85)), some (.inr (.inr 25)), some (.inr (.inr 59)), some (.inl 0), none, none, none, none, none]) rfl rfl rfl rfl ?_
  refine r_aload (pc' := 3) rfl rfl rfl ?_
  refine r_getv (pc' := 6) (v := (S 59 4)) rfl rfl (Or.inl rfl) rfl rfl ?_
  have b1 : 0 ≤ S 59 4 ∧ S 59 4 ≤ 6 := hB 59 4
  refine r_istore (pc' := 8) (ls' := [some (.inr (.inr 85)), some (.inr (.inr 25)), some (.inr (.inr 59)), some (.inl 0), some (.inl (S 59 4)), none, none, none, none]) rfl rfl rfl rfl ?_
  refine r_aload (pc' := 9) rfl rfl rfl ?_
  refine r_getv (pc' := 12) (v := (S 59 2)) rfl rfl (Or.inl rfl) rfl rfl ?_
  have b2 : 0 ≤ S 59 2 ∧ S 59 2 ≤ 99 := hB 59 2
  refine r_istore (pc' := 14) (ls' := [some (.inr (.inr 85)), some (.inr (.inr 25)), some (.inr (.inr 59)), some (.inl 0), some (.inl (S 59 4)), some (.inl (S 59 2)), none, none, none]) rfl rfl rfl rfl ?_
  refine r_const (pc' := 15) rfl rfl ?_
  refine r_istore (pc' := 17) (ls' := [some (.inr (.inr 85)), some (.inr (.inr 25)), some (.inr (.inr 59)), some (.inl 0), some (.inl (S 59 4)), some (.inl (S 59 2)), some (.inl 0), none, none]) rfl rfl rfl rfl ?_
  refine r_mem (show S = fl S 86 (rowf S) (0 : Int) from by exact fl_0 S _ _) ?_
  refine r_while (α := Int × Int × Int × Int) (fun z' => [some (.inr (.inr 85)), some (.inr (.inr 25)), some (.inr (.inr 59)), some (.inl z'.1), some (.inl z'.2.1), some (.inl z'.2.2.1), some (.inl z'.2.2.2), none, none]) (fun z' => fl S 86 (rowf S) z'.2.2.2) (fun z' => (0 ≤ z'.2.2.2 ∧ z'.2.2.2 ≤ S 85 1) ∧ (((0 ≤ z'.1 ∧ z'.1 < 128) ∧ 0 ≤ z'.2.1 ∧ z'.2.1 < 7) ∧ 0 ≤ z'.2.2.1 ∧ z'.2.2.1 ≤ 99 + 1000034 * z'.2.2.2) ∧ (lst S z'.2.2.2 = (z'.1, z'.2.1, z'.2.2.1))) (fun z' => (S 85 1 - z'.2.2.2).toNat) ?_ (0, (S 59 4), (S 59 2), 0) (show (0 ≤ (0 : Int) ∧ (0 : Int) ≤ S 85 1) ∧ (((0 ≤ (0 : Int) ∧ (0 : Int) < 128) ∧ 0 ≤ (S 59 4) ∧ (S 59 4) < 7) ∧ 0 ≤ (S 59 2) ∧ (S 59 2) ≤ 99 + 1000034 * (0 : Int)) ∧ (lst S (0 : Int) = ((0 : Int), (S 59 4), (S 59 2))) from by exact ⟨by omega, by omega, rfl⟩)
  rintro ⟨d, a, m, k⟩ hI' ih17
  have hI' : (0 ≤ k ∧ k ≤ S 85 1) ∧ (((0 ≤ d ∧ d < 128) ∧ 0 ≤ a ∧ a < 7) ∧ 0 ≤ m ∧ m ≤ 99 + 1000034 * k) ∧ (lst S k = (d, a, m)) := hI'
  obtain ⟨i1, i3, i2⟩ := hI'
  show RS _ _ _ _ [some (.inr (.inr 85)), some (.inr (.inr 25)), some (.inr (.inr 59)), some (.inl d), some (.inl a), some (.inl m), some (.inl k), none, none] [] (fl S 86 (rowf S) k)
  have b3 : 0 ≤ S 85 1 ∧ S 85 1 ≤ 7 := hB 85 1
  have hB4 : Bd (fl S 86 (rowf S) k) := by exact Bd_fl hB (fun k _ _ => rowf_b hB k)
  refine r_iload (pc' := 19) rfl rfl rfl ?_
  refine r_aload (pc' := 20) rfl rfl rfl ?_
  refine r_getv (pc' := 23) (v := (S 85 1)) rfl rfl (Or.inl rfl) rfl (fl_o (by omega)) ?_
  by_cases h5 : k < (S 85 1)
  · refine r_icmp_ge0 (pc' := 26) rfl rfl (by omega) (by omega) ?_
    refine r_const (pc' := 27) rfl rfl ?_
    refine r_istore (pc' := 29) (ls' := [some (.inr (.inr 85)), some (.inr (.inr 25)), some (.inr (.inr 59)), some (.inl d), some (.inl a), some (.inl m), some (.inl k), some (.inl 0), none]) rfl rfl rfl rfl ?_
    refine r_while (α := Int) (fun z' => [some (.inr (.inr 85)), some (.inr (.inr 25)), some (.inr (.inr 59)), some (.inl d), some (.inl a), some (.inl m), some (.inl k), some (.inl z'), none]) (fun z' => (fl S 86 (rowf S) k)) (fun z' => (0 ≤ z' ∧ z' ≤ S 25 0) ∧ (fo (fs1 (gon S (d, a, m))) (-1) z'.toNat = -1)) (fun z' => (S 25 0 - z').toNat) ?_ 0 (show (0 ≤ (0 : Int) ∧ (0 : Int) ≤ S 25 0) ∧ (fo (fs1 (gon S (d, a, m))) (-1) (0 : Int).toNat = -1) from by exact ⟨by omega, rfl⟩)
    rintro f hI' ih29
    have hI' : (0 ≤ f ∧ f ≤ S 25 0) ∧ (fo (fs1 (gon S (d, a, m))) (-1) f.toNat = -1) := hI'
    obtain ⟨i4, i5⟩ := hI'
    show RS _ _ _ _ [some (.inr (.inr 85)), some (.inr (.inr 25)), some (.inr (.inr 59)), some (.inl d), some (.inl a), some (.inl m), some (.inl k), some (.inl f), none] [] (fl S 86 (rowf S) k)
    have b6 : 0 ≤ S 25 0 ∧ S 25 0 ≤ 7 := hB 25 0
    refine r_iload (pc' := 31) rfl rfl rfl ?_
    refine r_aload (pc' := 32) rfl rfl rfl ?_
    refine r_getv (pc' := 35) (v := (S 25 0)) rfl rfl (Or.inl rfl) rfl (fl_o (by omega)) ?_
    by_cases h7 : f < (S 25 0)
    · refine r_icmp_ge0 (pc' := 38) rfl rfl (by omega) (by omega) ?_
      refine r_iload (pc' := 40) rfl rfl rfl ?_
      refine r_aload (pc' := 41) rfl rfl rfl ?_
      refine r_getr (pc' := 44) (v := 51) rfl rfl rfl rfl rfl ?_
      refine r_iload (pc' := 46) rfl rfl rfl ?_
      refine r_aald (pc' := 47) (v := (52 + a)) 102007 rfl rfl rfl rfl (by omega) rfl ?_
      refine r_iload (pc' := 49) rfl rfl rfl ?_
      refine r_aldv (pc' := 50) (v := (S (52 + a) f)) 7 rfl rfl (shr_52 (by omega)) (by omega) (fl_o (by omega)) ?_
      have b8 : 0 ≤ S (52 + a) f ∧ S (52 + a) f ≤ 1000000 := bdr_52 hB (by omega) f
      refine r_iadd (pc' := 51) rfl rfl ?_
      refine r_aload (pc' := 52) rfl rfl rfl ?_
      refine r_getr (pc' := 55) (v := 88) rfl rfl rfl rfl rfl ?_
      refine r_iload (pc' := 57) rfl rfl rfl ?_
      refine r_aldv (pc' := 58) (v := (S 88 f)) 7 rfl rfl rfl (by omega) (fl_o (by omega)) ?_
      have b9 : 0 ≤ S 88 f ∧ S 88 f ≤ 34 := hB 88 f
      refine r_iadd (pc' := 59) rfl rfl ?_
      refine r_istore (pc' := 61) (ls' := [some (.inr (.inr 85)), some (.inr (.inr 25)), some (.inr (.inr 59)), some (.inl d), some (.inl a), some (.inl m), some (.inl k), some (.inl f), some (.inl ((m + (S (52 + a) f)) + (S 88 f)))]) rfl rfl rfl rfl ?_
      refine r_iload (pc' := 62) rfl rfl rfl ?_
      refine r_iload (pc' := 64) rfl rfl rfl ?_
      refine r_ishr (pc' := 65) rfl rfl ?_
      have b10 := mx_shr_r d f
      refine r_const (pc' := 66) rfl rfl ?_
      refine r_iand (pc' := 67) rfl rfl ?_
      have b11 := mx_and_r (mx_shr d f) 1
      by_cases h12 : tb d f
      · refine r_if_ne1 (pc' := 115) rfl rfl (by omega) (fun q => absurd h12 (Bool.eq_false_iff.mp ((b_tst0 (by omega)).mp q))) ?_
        refine r_iinc (pc' := 118) (ls' := [some (.inr (.inr 85)), some (.inr (.inr 25)), some (.inr (.inr 59)), some (.inl d), some (.inl a), some (.inl m), some (.inl k), some (.inl (f + 1)), some (.inl ((m + (S (52 + a) f)) + (S 88 f)))]) rfl rfl rfl rfl rfl ?_
        refine r_goto (pc' := 29) rfl rfl ?_
        refine r_forget [true, true, true, true, true, true, true, true, false] rfl ?_
        exact ih29 (f + 1) (show (0 ≤ (f + 1) ∧ (f + 1) ≤ S 25 0) ∧ (fo (fs1 (gon S (d, a, m))) (-1) (f + 1).toNat = -1) from by exact ⟨by omega, by rw [fo_s (by omega), i5]; exact fs1_f (fun q => q.1 h12)⟩) (show (S 25 0 - (f + 1)).toNat < (S 25 0 - f).toNat from by omega)
      · refine r_if_ne0 (pc' := 70) rfl rfl (by omega) ((b_tst0 (by omega)).mpr (Bool.eq_false_iff.mpr h12)) ?_
        refine r_aload (pc' := 71) rfl rfl rfl ?_
        refine r_aload (pc' := 72) rfl rfl rfl ?_
        refine r_iload (pc' := 73) rfl rfl rfl ?_
        refine r_const (pc' := 74) rfl rfl ?_
        refine r_iload (pc' := 76) rfl rfl rfl ?_
        refine r_ishl (pc' := 77) rfl rfl ?_
        have b13 := mx_shl_r 1 f
        have e14 := shl_u (k := f) 7 (by omega) (by omega)
        refine r_ior (pc' := 78) rfl rfl ?_
        have b15 := mx_or_r d (mx_shl 1 f)
        have e16 := or_u (a := d) (b := (mx_shl 1 f)) 7 (by omega) (by omega) (by omega) (by omega) (by omega)
        refine r_iload (pc' := 80) rfl rfl rfl ?_
        refine r_iload (pc' := 82) rfl rfl rfl ?_
        by_cases h17 : ∃ xx, ((mx_or d (mx_shl 1 f)) ≤ xx ∧ xx ≤ (fl S 86 (rowf S) k) 85 3) ∧ cgo (fl S 86 (rowf S) k) (mx_or d (mx_shl 1 f)) f ((m + (S (52 + a) f)) + (S 88 f)) xx
        · skip
          refine q_callE (pc' := 85) (w := some (.inl 1)) (S2 := (fl S 86 (rowf S) k)) (st' := [.inl 1]) rfl rfl rfl (bi_pos h17 (c_X9_canGoOn (g := (mx_or d (mx_shl 1 f))) (a := f) (m := ((m + (S (52 + a) f)) + (S 88 f))) (S := (fl S 86 (rowf S) k)) hB4 (show 0 ≤ (mx_or d (mx_shl 1 f)) ∧ (mx_or d (mx_shl 1 f)) < 128 from by omega) (show 0 ≤ f ∧ f < 7 from by omega) (show 0 ≤ ((m + (S (52 + a) f)) + (S 88 f)) ∧ ((m + (S (52 + a) f)) + (S 88 f)) ≤ 10000000 from by omega))) (by decide) rfl rfl (Nat.le_of_ble_eq_true rfl) (fun _ _ => ⟨_, _, rfl, rfl⟩) rfl rfl ?_
          refine r_if_eq0 (pc' := 88) rfl rfl (by decide) (by decide) ?_
          refine r_aload (pc' := 89) rfl rfl rfl ?_
          refine r_getr (pc' := 92) (v := 86) rfl rfl rfl rfl rfl ?_
          refine r_iload (pc' := 94) rfl rfl rfl ?_
          refine r_iload (pc' := 96) rfl rfl rfl ?_
          refine r_ast (pc' := 97) 7 rfl rfl rfl (by omega) ?_
          refine r_iload (pc' := 98) rfl rfl rfl ?_
          refine r_const (pc' := 99) rfl rfl ?_
          refine r_iload (pc' := 101) rfl rfl rfl ?_
          refine r_ishl (pc' := 102) rfl rfl ?_
          have b18 := mx_shl_r 1 f
          have e19 := shl_u (k := f) 7 (by omega) (by omega)
          refine r_ior (pc' := 103) rfl rfl ?_
          have b20 := mx_or_r d (mx_shl 1 f)
          have e21 := or_u (a := d) (b := (mx_shl 1 f)) 7 (by omega) (by omega) (by omega) (by omega) (by omega)
          refine r_istore (pc' := 104) (ls' := [some (.inr (.inr 85)), some (.inr (.inr 25)), some (.inr (.inr 59)), some (.inl (mx_or d (mx_shl 1 f))), some (.inl a), some (.inl m), some (.inl k), some (.inl f), some (.inl ((m + (S (52 + a) f)) + (S 88 f)))]) rfl rfl rfl rfl ?_
          refine r_iload (pc' := 106) rfl rfl rfl ?_
          refine r_istore (pc' := 108) (ls' := [some (.inr (.inr 85)), some (.inr (.inr 25)), some (.inr (.inr 59)), some (.inl (mx_or d (mx_shl 1 f))), some (.inl f), some (.inl m), some (.inl k), some (.inl f), some (.inl ((m + (S (52 + a) f)) + (S 88 f)))]) rfl rfl rfl rfl ?_
          refine r_iload (pc' := 110) rfl rfl rfl ?_
          refine r_istore (pc' := 112) (ls' := [some (.inr (.inr 85)), some (.inr (.inr 25)), some (.inr (.inr 59)), some (.inl (mx_or d (mx_shl 1 f))), some (.inl f), some (.inl ((m + (S (52 + a) f)) + (S 88 f))), some (.inl k), some (.inl f), some (.inl ((m + (S (52 + a) f)) + (S 88 f)))]) rfl rfl rfl rfl ?_
          refine r_goto (pc' := 121) rfl rfl ?_
          refine r_iinc (pc' := 124) (ls' := [some (.inr (.inr 85)), some (.inr (.inr 25)), some (.inr (.inr 59)), some (.inl (mx_or d (mx_shl 1 f))), some (.inl f), some (.inl ((m + (S (52 + a) f)) + (S 88 f))), some (.inl (k + 1)), some (.inl f), some (.inl ((m + (S (52 + a) f)) + (S 88 f)))]) rfl rfl rfl rfl rfl ?_
          refine r_goto (pc' := 17) rfl rfl ?_
          refine r_forget [true, true, true, true, true, true, true, false, false] rfl ?_
          refine r_mem (show mx_up (fl S 86 (rowf S) k) 86 k f = fl S 86 (rowf S) (k + 1) from by exact fl_s (by omega) (lst_t (by omega) i2 (by omega) i5 ⟨h12, (cgE_fl (d := mx_or d (mx_shl 1 f)) hB (by omega)).mp h17⟩).2) ?_
          exact ih17 ((mx_or d (mx_shl 1 f)), f, ((m + (S (52 + a) f)) + (S 88 f)), (k + 1)) (show (0 ≤ (k + 1) ∧ (k + 1) ≤ S 85 1) ∧ (((0 ≤ (mx_or d (mx_shl 1 f)) ∧ (mx_or d (mx_shl 1 f)) < 128) ∧ 0 ≤ f ∧ f < 7) ∧ 0 ≤ ((m + (S (52 + a) f)) + (S 88 f)) ∧ ((m + (S (52 + a) f)) + (S 88 f)) ≤ 99 + 1000034 * (k + 1)) ∧ (lst S (k + 1) = ((mx_or d (mx_shl 1 f)), f, ((m + (S (52 + a) f)) + (S 88 f)))) from by exact ⟨by omega, by omega, (lst_t (by omega) i2 (by omega) i5 ⟨h12, (cgE_fl (d := mx_or d (mx_shl 1 f)) hB (by omega)).mp h17⟩).1⟩) (show (S 85 1 - (k + 1)).toNat < (S 85 1 - k).toNat from by omega)
        · skip
          refine q_callE (pc' := 85) (w := some (.inl 0)) (S2 := (fl S 86 (rowf S) k)) (st' := [.inl 0]) rfl rfl rfl (bi_neg h17 (c_X9_canGoOn (g := (mx_or d (mx_shl 1 f))) (a := f) (m := ((m + (S (52 + a) f)) + (S 88 f))) (S := (fl S 86 (rowf S) k)) hB4 (show 0 ≤ (mx_or d (mx_shl 1 f)) ∧ (mx_or d (mx_shl 1 f)) < 128 from by omega) (show 0 ≤ f ∧ f < 7 from by omega) (show 0 ≤ ((m + (S (52 + a) f)) + (S 88 f)) ∧ ((m + (S (52 + a) f)) + (S 88 f)) ≤ 10000000 from by omega))) (by decide) rfl rfl (Nat.le_of_ble_eq_true rfl) (fun _ _ => ⟨_, _, rfl, rfl⟩) rfl rfl ?_
          refine r_if_eq1 (pc' := 115) rfl rfl (by decide) (by decide) ?_
          refine r_iinc (pc' := 118) (ls' := [some (.inr (.inr 85)), some (.inr (.inr 25)), some (.inr (.inr 59)), some (.inl d), some (.inl a), some (.inl m), some (.inl k), some (.inl (f + 1)), some (.inl ((m + (S (52 + a) f)) + (S 88 f)))]) rfl rfl rfl rfl rfl ?_
          refine r_goto (pc' := 29) rfl rfl ?_
          refine r_forget [true, true, true, true, true, true, true, true, false] rfl ?_
          exact ih29 (f + 1) (show (0 ≤ (f + 1) ∧ (f + 1) ≤ S 25 0) ∧ (fo (fs1 (gon S (d, a, m))) (-1) (f + 1).toNat = -1) from by exact ⟨by omega, by rw [fo_s (by omega), i5]; exact fs1_f (fun q => h17 ((cgE_fl hB (by omega)).mpr q.2))⟩) (show (S 25 0 - (f + 1)).toNat < (S 25 0 - f).toNat from by omega)
    · refine r_icmp_ge1 (pc' := 121) rfl rfl (by omega) (by omega) ?_
      refine r_iinc (pc' := 124) (ls' := [some (.inr (.inr 85)), some (.inr (.inr 25)), some (.inr (.inr 59)), some (.inl d), some (.inl a), some (.inl m), some (.inl (k + 1)), some (.inl f), none]) rfl rfl rfl rfl rfl ?_
      refine r_goto (pc' := 17) rfl rfl ?_
      refine r_forget [true, true, true, true, true, true, true, false, true] rfl ?_
      refine r_mem (show (fl S 86 (rowf S) k) = fl S 86 (rowf S) (k + 1) from by exact fl_n (lst_f (by omega) i2 (by rw [show (S 25 0).toNat = f.toNat by omega]; exact i5)).2) ?_
      exact ih17 (d, a, m, (k + 1)) (show (0 ≤ (k + 1) ∧ (k + 1) ≤ S 85 1) ∧ (((0 ≤ d ∧ d < 128) ∧ 0 ≤ a ∧ a < 7) ∧ 0 ≤ m ∧ m ≤ 99 + 1000034 * (k + 1)) ∧ (lst S (k + 1) = (d, a, m)) from by exact ⟨by omega, by omega, (lst_f (by omega) i2 (by rw [show (S 25 0).toNat = f.toNat by omega]; exact i5)).1⟩) (show (S 85 1 - (k + 1)).toNat < (S 85 1 - k).toNat from by omega)
  · refine r_icmp_ge1 (pc' := 127) rfl rfl (by omega) (by omega) ?_
    refine q_vret rfl rfl rfl ?_
    obtain rfl : k = S 85 1 := by omega
    exact ⟨rfl, rfl⟩
/-- the FEAST is found -/
noncomputable def gnS (S : rS) : rS := fl S 218 (gnf S) (S 85 3 + 1)
noncomputable def pkk (S : rS) : rS := pkS S (S 85 3 + 1)
def FD (S S' : rS) : Prop := ∃ T, FR (wgh S (S 25 0)) T ∧ FX (wgh S (S 25 0)) T (wgh S (S 25 0) 85 3 + 1) ∧ S' = lay (pkk (gnS T))
theorem FD_o {S S' : rS} (h : FD S S') {a j : Int} (ha : ¬ (85 ≤ a ∧ a ≤ 218)) : S' a j = S a j := by
  obtain ⟨T, h1, h2, rfl⟩ := h
  have e1 : lay (pkk (gnS T)) a j = pkk (gnS T) a j := lay_o (by omega)
  have e2 : pkk (gnS T) a j = gnS T a j := pkS_o (by omega)
  have e3 : gnS T a j = T a j := fl_o (by omega)
  rw [e1, e2, e3, h1.2 a j (by omega)]
  exact wg_o (by omega)
theorem cutl_in : ∀ v : Nat, v < 7 → mx_i2b v = v ∧ mx_i2s v = v := by decide +kernel
theorem cutl_id {l v : Int} (h : 0 ≤ v ∧ v ≤ 6) : cutl l v = v := by
  obtain ⟨n, rfl⟩ := Int.eq_ofNat_of_zero_le h.1
  have q := cutl_in n (by omega)
  unfold cutl
  rw [q.1, q.2]
  split <;> (try split) <;> rfl
theorem c_X9_find {S : rS} (hB : Bd S) : CS 4 187 [.inr (.inr 85), .inr (.inr 25), .inr (.inr 59)] S (fun r' S' => r' = none ∧ Bd S' ∧ FD S S') := by
  refine RS.beg (ls := [some (.inr (.inr 85)), some (.inr (.inr 25)), some (.inr (.inr 59))]) rfl rfl rfl rfl rfl ?_
  have b0 : 0 ≤ S 25 0 ∧ S 25 0 ≤ 7 := hB 25 0
  refine r_aload (pc' := 1) rfl rfl rfl ?_
  refine r_aload (pc' := 2) rfl rfl rfl ?_
  refine r_aload (pc' := 3) rfl rfl rfl ?_
  refine q_callE (pc' := 6) (w := none) (S2 := wgh S (S 25 0)) (st' := []) rfl rfl rfl (c_X9_weighFields  (S := S) hB ) (by decide) rfl rfl (Nat.le_of_ble_eq_true rfl) (fun _ _ => ⟨_, _, rfl, rfl⟩) rfl rfl ?_
  have hB1 : Bd (wgh S (S 25 0)) := Bd_wgh hB (by have q : 0 ≤ S 25 0 ∧ S 25 0 ≤ 7 := (hB : Bd _) 25 0; omega)
  refine r_aload (pc' := 7) rfl rfl rfl ?_
  refine r_aload (pc' := 8) rfl rfl rfl ?_
  refine q_call (pc' := 11) (P := fun r' S' => r' = none ∧ FR (wgh S (S 25 0)) S' ∧ FX (wgh S (S 25 0)) S' ((wgh S (S 25 0)) 85 3 + 1)) rfl rfl rfl (c_X9_fillFewest  (S := (wgh S (S 25 0))) hB1 ) (by decide) rfl rfl (Nat.le_of_ble_eq_true rfl) (fun _ _ => ⟨_, _, rfl, rfl⟩) rfl ?_
  intro r2 T2 hq2 hz2
  obtain ⟨rfl, hF2, hX2⟩ := hq2
  show RS _ _ _ _ _ [] _
  refine r_aload (pc' := 12) rfl rfl rfl ?_
  refine r_aload (pc' := 13) rfl rfl rfl ?_
  refine r_aload (pc' := 14) rfl rfl rfl ?_
  refine q_callE (pc' := 17) (w := none) (S2 := fl T2 218 (gnf T2) (T2 85 3 + 1)) (st' := []) rfl rfl rfl (c_X9_fillGain  (S := T2) hF2.1 ) (by decide) rfl rfl (Nat.le_of_ble_eq_true rfl) (fun _ _ => ⟨_, _, rfl, rfl⟩) rfl rfl ?_
  have hB3 : Bd (fl T2 218 (gnf T2) (T2 85 3 + 1)) := Bd_fl hF2.1 (fun k _ _ => gnf_b hF2.1 k)
  refine r_aload (pc' := 18) rfl rfl rfl ?_
  refine q_callE (pc' := 21) (w := none) (S2 := pkS (fl T2 218 (gnf T2) (T2 85 3 + 1)) ((fl T2 218 (gnf T2) (T2 85 3 + 1)) 85 3 + 1)) (st' := []) rfl rfl rfl (c_X9_pickBest  (S := (fl T2 218 (gnf T2) (T2 85 3 + 1))) hB3 ) (by decide) rfl rfl (Nat.le_of_ble_eq_true rfl) (fun _ _ => ⟨_, _, rfl, rfl⟩) rfl rfl ?_
  have hB4 : Bd (pkS (fl T2 218 (gnf T2) (T2 85 3 + 1)) ((fl T2 218 (gnf T2) (T2 85 3 + 1)) 85 3 + 1)) := Bd_pkS hB3 (by have q : 0 ≤ (fl T2 218 (gnf T2) (T2 85 3 + 1)) 85 3 ∧ (fl T2 218 (gnf T2) (T2 85 3 + 1)) 85 3 ≤ 127 := (hB3 : Bd _) 85 3; omega)
  refine r_aload (pc' := 22) rfl rfl rfl ?_
  refine r_aload (pc' := 23) rfl rfl rfl ?_
  refine r_aload (pc' := 24) rfl rfl rfl ?_
  refine q_callE (pc' := 27) (w := none) (S2 := lay (pkS (fl T2 218 (gnf T2) (T2 85 3 + 1)) ((fl T2 218 (gnf T2) (T2 85 3 + 1)) 85 3 + 1))) (st' := []) rfl rfl rfl (c_X9_layRow  (S := (pkS (fl T2 218 (gnf T2) (T2 85 3 + 1)) ((fl T2 218 (gnf T2) (T2 85 3 + 1)) 85 3 + 1))) hB4 ) (by decide) rfl rfl (Nat.le_of_ble_eq_true rfl) (fun _ _ => ⟨_, _, rfl, rfl⟩) rfl rfl ?_
  have hB5 : Bd (lay (pkS (fl T2 218 (gnf T2) (T2 85 3 + 1)) ((fl T2 218 (gnf T2) (T2 85 3 + 1)) 85 3 + 1))) := Bd_lay hB4
  refine q_vret rfl rfl rfl ?_
  exact ⟨rfl, hB5, ⟨_, hF2, hX2, rfl⟩⟩
theorem c_X10_feast {k : Int} {S : rS} (hB : Bd S) (h_k : -2147483648 ≤ k ∧ k < 2147483648) : CS 5 23 [.inr (.inr 0), .inl k] S (fun r' S' => (¬ (-2 ≤ k ∧ k < 7) → r' = some (.inl (-3)) ∧ S' = S) ∧ (-2 ≤ k ∧ k < 7 → Bd S' ∧ FD S S' ∧ r' = some (.inl (if k = -1 then S' 85 2 else if k = -2 then S' 85 1 else if k < S' 85 1 then S' 86 k else -1)))) := by
  refine RS.beg (ls := [some (.inr (.inr 0)), some (.inl k)]) rfl rfl rfl rfl rfl ?_
  refine r_iload (pc' := 1) rfl rfl rfl ?_
  refine r_const (pc' := 3) rfl rfl ?_
  by_cases h1 : k < (-2)
  · refine r_icmp_lt1 (pc' := 12) rfl rfl (by omega) (by omega) ?_
    refine r_const (pc' := 14) rfl rfl ?_
    refine q_iret rfl rfl rfl ?_
    exact ⟨fun _ => ⟨rfl, rfl⟩, fun q => absurd q (by omega)⟩
  · refine r_icmp_lt0 (pc' := 6) rfl rfl (by omega) (by omega) ?_
    refine r_iload (pc' := 7) rfl rfl rfl ?_
    refine r_const (pc' := 9) rfl rfl ?_
    by_cases h2 : k < 7
    · refine r_icmp_lt1 (pc' := 15) rfl rfl (by omega) (by omega) ?_
      refine r_aload (pc' := 16) rfl rfl rfl ?_
      refine r_getr (pc' := 19) (v := 85) rfl rfl rfl rfl rfl ?_
      refine r_aload (pc' := 20) rfl rfl rfl ?_
      refine r_getr (pc' := 23) (v := 25) rfl rfl rfl rfl rfl ?_
      refine r_aload (pc' := 24) rfl rfl rfl ?_
      refine r_getr (pc' := 27) (v := 59) rfl rfl rfl rfl rfl ?_
      refine q_call (pc' := 30) (P := fun r' S' => r' = none ∧ Bd S' ∧ FD S S') rfl rfl rfl (c_X9_find  (S := S) hB ) (by decide) rfl rfl (Nat.le_of_ble_eq_true rfl) (fun _ _ => ⟨_, _, rfl, rfl⟩) rfl ?_
      intro r3 T3 hq3 hz3
      obtain ⟨rfl, hB3, hD3⟩ := hq3
      have hF3 : ∀ a j : Int, ¬ (85 ≤ a ∧ a ≤ 218) → T3 a j = S a j := fun a j h => FD_o hD3 h
      show RS _ _ _ _ _ [] _
      refine r_iload (pc' := 31) rfl rfl rfl ?_
      refine r_const (pc' := 32) rfl rfl ?_
      by_cases h4 : k = (-1)
      · refine r_icmp_ne0 (pc' := 35) rfl rfl (by omega) (by omega) ?_
        refine r_aload (pc' := 36) rfl rfl rfl ?_
        refine r_getr (pc' := 39) (v := 85) rfl rfl rfl rfl rfl ?_
        refine r_getv (pc' := 42) (v := (T3 85 2)) rfl rfl (Or.inl rfl) rfl rfl ?_
        have b5 : 0 ≤ T3 85 2 ∧ T3 85 2 ≤ 56 := hB3 85 2
        refine q_iret rfl rfl rfl ?_
        exact ⟨fun q => absurd q (by omega), fun _ => ⟨hB3, hD3, by rw [if_pos (by omega)]⟩⟩
      · refine r_icmp_ne1 (pc' := 43) rfl rfl (by omega) (by omega) ?_
        refine r_iload (pc' := 44) rfl rfl rfl ?_
        refine r_const (pc' := 46) rfl rfl ?_
        by_cases h6 : k = (-2)
        · refine r_icmp_ne0 (pc' := 49) rfl rfl (by omega) (by omega) ?_
          refine r_aload (pc' := 50) rfl rfl rfl ?_
          refine r_getr (pc' := 53) (v := 85) rfl rfl rfl rfl rfl ?_
          refine r_getv (pc' := 56) (v := (T3 85 1)) rfl rfl (Or.inl rfl) rfl rfl ?_
          have b7 : 0 ≤ T3 85 1 ∧ T3 85 1 ≤ 7 := hB3 85 1
          refine q_iret rfl rfl rfl ?_
          exact ⟨fun q => absurd q (by omega), fun _ => ⟨hB3, hD3, by rw [if_neg (by omega)]; rw [if_pos (by omega)]⟩⟩
        · refine r_icmp_ne1 (pc' := 57) rfl rfl (by omega) (by omega) ?_
          refine r_iload (pc' := 58) rfl rfl rfl ?_
          refine r_aload (pc' := 59) rfl rfl rfl ?_
          refine r_getr (pc' := 62) (v := 85) rfl rfl rfl rfl rfl ?_
          refine r_getv (pc' := 65) (v := (T3 85 1)) rfl rfl (Or.inl rfl) rfl rfl ?_
          have b8 : 0 ≤ T3 85 1 ∧ T3 85 1 ≤ 7 := hB3 85 1
          by_cases h9 : k < (T3 85 1)
          · refine r_icmp_ge0 (pc' := 68) rfl rfl (by omega) (by omega) ?_
            refine r_aload (pc' := 69) rfl rfl rfl ?_
            refine r_getr (pc' := 72) (v := 85) rfl rfl rfl rfl rfl ?_
            refine r_getr (pc' := 75) (v := 86) rfl rfl rfl rfl rfl ?_
            refine r_iload (pc' := 76) rfl rfl rfl ?_
            refine r_aldv (pc' := 77) (v := (T3 86 k)) 7 rfl rfl rfl (by omega) rfl ?_
            have b10 : 0 ≤ T3 86 k ∧ T3 86 k ≤ 6 := hB3 86 k
            refine r_goto (pc' := 81) rfl rfl ?_
            refine q_iret rfl rfl rfl ?_
            exact ⟨fun q => absurd q (by omega), fun _ => ⟨hB3, hD3, by rw [if_neg (by omega)]; rw [if_neg (by omega)]; rw [if_pos (by omega)]⟩⟩
          · refine r_icmp_ge1 (pc' := 80) rfl rfl (by omega) (by omega) ?_
            refine r_const (pc' := 81) rfl rfl ?_
            refine q_iret rfl rfl rfl ?_
            exact ⟨fun q => absurd q (by omega), fun _ => ⟨hB3, hD3, by rw [if_neg (by omega)]; rw [if_neg (by omega)]; rw [if_neg (by omega)]⟩⟩
    · refine r_icmp_lt0 (pc' := 12) rfl rfl (by omega) (by omega) ?_
      refine r_const (pc' := 14) rfl rfl ?_
      refine q_iret rfl rfl rfl ?_
      exact ⟨fun _ => ⟨rfl, rfl⟩, fun q => absurd q (by omega)⟩
theorem c_X10_list {s : Int} {l : Int} {i : Int} {S : rS} (hB : Bd S) (h_s : -2147483648 ≤ s ∧ s < 2147483648) (h_l : -2147483648 ≤ l ∧ l < 2147483648) (h_i : -2147483648 ≤ i ∧ i < 2147483648) : CS 5 38 [.inr (.inr 0), .inl s, .inl l, .inl i] S (fun r' S' => (v_X10_laneRefusal S s l ≠ 0 → r' = some (.inl (v_X10_laneRefusal S s l)) ∧ S' = S) ∧ (v_X10_laneRefusal S s l = 0 → ∃ T, Bd T ∧ FD S T ∧ Bd S' ∧ (((0 ≤ i ∧ i + T 85 1 ≤ S (224 + 2 * s) 2) → r' = some (.inl (T 85 1)) ∧ S' = mx_cp T 86 0 (225 + 2 * s) i (T 85 1)) ∧ (¬ (0 ≤ i ∧ i + T 85 1 ≤ S (224 + 2 * s) 2) → r' = some (.inl (-13)) ∧ S' = T)))) := by
  refine RS.beg (ls := [some (.inr (.inr 0)), some (.inl s), some (.inl l), some (.inl i), none, none, none]) rfl rfl rfl rfl rfl ?_
  refine r_aload (pc' := 1) rfl rfl rfl ?_
  refine r_iload (pc' := 2) rfl rfl rfl ?_
  refine r_iload (pc' := 3) rfl rfl rfl ?_
  refine q_callE (pc' := 6) (w := some (.inl (v_X10_laneRefusal S s l))) (S2 := S) (st' := [.inl (v_X10_laneRefusal S s l)]) rfl rfl rfl (c_X10_laneRefusal (s := s) (l := l) (S := S) hB (show -2147483648 ≤ s ∧ s < 2147483648 from by omega) (show -2147483648 ≤ l ∧ l < 2147483648 from by omega)) (by decide) rfl rfl (Nat.le_of_ble_eq_true rfl) (fun _ _ => ⟨_, _, rfl, rfl⟩) rfl rfl ?_
  have b1 : -20 ≤ (v_X10_laneRefusal S s l) ∧ (v_X10_laneRefusal S s l) ≤ 0 := lrfr
  refine r_istore (pc' := 8) (ls' := [some (.inr (.inr 0)), some (.inl s), some (.inl l), some (.inl i), some (.inl (v_X10_laneRefusal S s l)), none, none]) rfl rfl rfl rfl ?_
  refine r_iload (pc' := 10) rfl rfl rfl ?_
  by_cases h2 : (v_X10_laneRefusal S s l) = 0
  · refine r_if_eq1 (pc' := 16) rfl rfl (by omega) (by omega) ?_
    have lq := lrf (S := S) (s := s) (l := l) (by omega)
    have bz := bdo_2242 hB (i := s) (by omega)
    refine r_aload (pc' := 17) rfl rfl rfl ?_
    refine r_getr (pc' := 20) (v := 85) rfl rfl rfl rfl rfl ?_
    refine r_aload (pc' := 21) rfl rfl rfl ?_
    refine r_getr (pc' := 24) (v := 25) rfl rfl rfl rfl rfl ?_
    refine r_aload (pc' := 25) rfl rfl rfl ?_
    refine r_getr (pc' := 28) (v := 59) rfl rfl rfl rfl rfl ?_
    refine q_call (pc' := 31) (P := fun r' S' => r' = none ∧ Bd S' ∧ FD S S') rfl rfl rfl (c_X9_find  (S := S) hB ) (by decide) rfl rfl (Nat.le_of_ble_eq_true rfl) (fun _ _ => ⟨_, _, rfl, rfl⟩) rfl ?_
    intro r3 T3 hq3 hz3
    obtain ⟨rfl, hB3, hD3⟩ := hq3
    have hF3 : ∀ a j : Int, ¬ (85 ≤ a ∧ a ≤ 218) → T3 a j = S a j := fun a j h => FD_o hD3 h
    show RS _ _ _ _ _ [] _
    refine r_aload (pc' := 32) rfl rfl rfl ?_
    refine r_getr (pc' := 35) (v := 219) rfl rfl rfl rfl rfl ?_
    refine r_iload (pc' := 36) rfl rfl rfl ?_
    refine r_aald (pc' := 37) (v := (224 + 2 * s)) 104004 rfl rfl rfl rfl (by omega) rfl ?_
    refine r_astore (pc' := 39) (ls' := [some (.inr (.inr 0)), some (.inl s), some (.inl l), some (.inl i), some (.inl (v_X10_laneRefusal S s l)), some (.inr (.inr (224 + 2 * s))), none]) rfl rfl rfl rfl ?_
    refine r_aload (pc' := 41) rfl rfl rfl ?_
    refine r_iload (pc' := 42) rfl rfl rfl ?_
    refine r_aload (pc' := 43) rfl rfl rfl ?_
    refine r_getr (pc' := 46) (v := 85) rfl rfl rfl rfl rfl ?_
    refine r_getv (pc' := 49) (v := (T3 85 1)) rfl rfl (Or.inl rfl) rfl rfl ?_
    have b4 : 0 ≤ T3 85 1 ∧ T3 85 1 ≤ 7 := hB3 85 1
    have b5 : 0 ≤ T3 (224 + 2 * s) 2 ∧ T3 (224 + 2 * s) 2 ≤ 24 := bdo_2242 hB3 (by omega)
    by_cases h6 : (0 ≤ i ∧ i ≤ T3 (224 + 2 * s) 2) ∧ 0 ≤ (T3 85 1) ∧ (T3 85 1) ≤ T3 (224 + 2 * s) 2 - i
    · skip
      refine q_callE (pc' := 52) (w := some (.inl 1)) (S2 := T3) (st' := [.inl 1]) rfl rfl rfl (bi_pos h6 (c_X5_hasRoom (s := s) (i := i) (n := (T3 85 1)) (S := T3) hB3 (show 0 ≤ s ∧ s < 4 from by omega) (show -2147483648 ≤ i ∧ i < 2147483648 from by omega) (show -2147483648 ≤ (T3 85 1) ∧ (T3 85 1) < 2147483648 from by omega))) (by decide) rfl rfl (Nat.le_of_ble_eq_true rfl) (fun _ _ => ⟨_, _, rfl, (sho_224 (by omega))⟩) rfl rfl ?_
      refine r_if_ne1 (pc' := 58) rfl rfl (by decide) (by decide) ?_
      refine r_const (pc' := 59) rfl rfl ?_
      refine r_istore (pc' := 61) (ls' := [some (.inr (.inr 0)), some (.inl s), some (.inl l), some (.inl i), some (.inl (v_X10_laneRefusal S s l)), some (.inr (.inr (224 + 2 * s))), some (.inl 0)]) rfl rfl rfl rfl ?_
      refine r_mem (show T3 = mx_cp T3 86 0 (225 + 2 * s) i (0 : Int) from by exact cp_0 _ _ _ _ _) ?_
      refine r_while (α := Int) (fun z' => [some (.inr (.inr 0)), some (.inl s), some (.inl l), some (.inl i), some (.inl (v_X10_laneRefusal S s l)), some (.inr (.inr (224 + 2 * s))), some (.inl z')]) (fun z' => mx_cp T3 86 0 (225 + 2 * s) i z') (fun z' => (0 ≤ z' ∧ z' ≤ T3 85 1)) (fun z' => (T3 85 1 - z').toNat) ?_ 0 (show (0 ≤ (0 : Int) ∧ (0 : Int) ≤ T3 85 1) from by omega)
      rintro k hI' ih61
      have hI' : (0 ≤ k ∧ k ≤ T3 85 1) := hI'
      have i1 := hI'
      show RS _ _ _ _ [some (.inr (.inr 0)), some (.inl s), some (.inl l), some (.inl i), some (.inl (v_X10_laneRefusal S s l)), some (.inr (.inr (224 + 2 * s))), some (.inl k)] [] (mx_cp T3 86 0 (225 + 2 * s) i k)
      have hB7 : Bd (mx_cp T3 86 0 (225 + 2 * s) i k) := by exact Bd_cp hB3 (fun k _ _ => by have q := bdp_225 (i := s) (by omega) (i + k); have q2 : bd_lo 86 (0 + k) = 0 ∧ bd_hi 86 (0 + k) = 6 := ⟨rfl, rfl⟩; omega)
      refine r_iload (pc' := 63) rfl rfl rfl ?_
      refine r_aload (pc' := 64) rfl rfl rfl ?_
      refine r_getr (pc' := 67) (v := 85) rfl rfl rfl rfl rfl ?_
      refine r_getv (pc' := 70) (v := (T3 85 1)) rfl rfl (Or.inl rfl) rfl (cp_o (by omega)) ?_
      by_cases h8 : k < (T3 85 1)
      · refine r_icmp_ge0 (pc' := 73) rfl rfl (by omega) (by omega) ?_
        refine r_aload (pc' := 75) rfl rfl rfl ?_
        refine r_iload (pc' := 76) rfl rfl rfl ?_
        refine r_iload (pc' := 78) rfl rfl rfl ?_
        refine r_iadd (pc' := 79) rfl rfl ?_
        refine r_aload (pc' := 80) rfl rfl rfl ?_
        refine r_getr (pc' := 83) (v := 85) rfl rfl rfl rfl rfl ?_
        refine r_getr (pc' := 86) (v := 86) rfl rfl rfl rfl rfl ?_
        refine r_iload (pc' := 88) rfl rfl rfl ?_
        refine r_aldv (pc' := 89) (v := (T3 86 k)) 7 rfl rfl rfl (by omega) (cp_o (by omega)) ?_
        have b9 : 0 ≤ T3 86 k ∧ T3 86 k ≤ 6 := hB3 86 k
        refine q_callE (pc' := 92) (w := none) (S2 := putl (mx_cp T3 86 0 (225 + 2 * s) i k) s (i + k) (T3 86 k)) (st' := []) rfl rfl rfl (c_X5_put (s := s) (i := (i + k)) (v := (T3 86 k)) (S := (mx_cp T3 86 0 (225 + 2 * s) i k)) hB7 (show 0 ≤ s ∧ s < 4 from by omega) (show 0 ≤ (i + k) ∧ (i + k) < 24 from by omega) (show -2147483648 ≤ (T3 86 k) ∧ (T3 86 k) < 2147483648 from by omega)) (by decide) rfl rfl (Nat.le_of_ble_eq_true rfl) (fun _ _ => ⟨_, _, rfl, (sho_224 (by omega))⟩) rfl rfl ?_
        have hB10 : Bd (putl (mx_cp T3 86 0 (225 + 2 * s) i k) s (i + k) (T3 86 k)) := Bd_putl hB7 (by omega) (by omega)
        refine r_iinc (pc' := 95) (ls' := [some (.inr (.inr 0)), some (.inl s), some (.inl l), some (.inl i), some (.inl (v_X10_laneRefusal S s l)), some (.inr (.inr (224 + 2 * s))), some (.inl (k + 1))]) rfl rfl rfl rfl rfl ?_
        refine r_goto (pc' := 61) rfl rfl ?_
        refine r_mem (show (putl (mx_cp T3 86 0 (225 + 2 * s) i k) s (i + k) (T3 86 k)) = mx_cp T3 86 0 (225 + 2 * s) i (k + 1) from by unfold putl; rw [cutl_id (by omega)]; exact cp_s (by omega) rfl (by omega) (by rw [show (0 : Int) + k = k by omega])) ?_
        exact ih61 (k + 1) (show (0 ≤ (k + 1) ∧ (k + 1) ≤ T3 85 1) from by omega) (show (T3 85 1 - (k + 1)).toNat < (T3 85 1 - k).toNat from by omega)
      · refine r_icmp_ge1 (pc' := 98) rfl rfl (by omega) (by omega) ?_
        refine r_aload (pc' := 99) rfl rfl rfl ?_
        refine r_getr (pc' := 102) (v := 85) rfl rfl rfl rfl rfl ?_
        refine r_getv (pc' := 105) (v := (T3 85 1)) rfl rfl (Or.inl rfl) rfl (cp_o (by omega)) ?_
        refine q_iret rfl rfl rfl ?_
        have eF := hF3 (224 + 2 * s) 2 (by omega)
        obtain rfl : k = T3 85 1 := by omega
        exact ⟨fun q => absurd (by omega) q, fun _ => ⟨T3, hB3, hD3, hB7, fun _ => ⟨rfl, rfl⟩, fun q => absurd (by omega) q⟩⟩
    · skip
      refine q_callE (pc' := 52) (w := some (.inl 0)) (S2 := T3) (st' := [.inl 0]) rfl rfl rfl (bi_neg h6 (c_X5_hasRoom (s := s) (i := i) (n := (T3 85 1)) (S := T3) hB3 (show 0 ≤ s ∧ s < 4 from by omega) (show -2147483648 ≤ i ∧ i < 2147483648 from by omega) (show -2147483648 ≤ (T3 85 1) ∧ (T3 85 1) < 2147483648 from by omega))) (by decide) rfl rfl (Nat.le_of_ble_eq_true rfl) (fun _ _ => ⟨_, _, rfl, (sho_224 (by omega))⟩) rfl rfl ?_
      refine r_if_ne0 (pc' := 55) rfl rfl (by decide) (by decide) ?_
      refine r_const (pc' := 57) rfl rfl ?_
      refine q_iret rfl rfl rfl ?_
      have eF := hF3 (224 + 2 * s) 2 (by omega)
      exact ⟨fun q => absurd (by omega) q, fun _ => ⟨T3, hB3, hD3, hB3, fun q => absurd q (by omega), fun _ => ⟨rfl, rfl⟩⟩⟩
  · refine r_if_eq0 (pc' := 13) rfl rfl (by omega) (by omega) ?_
    refine r_iload (pc' := 15) rfl rfl rfl ?_
    refine q_iret rfl rfl rfl ?_
    exact ⟨fun _ => ⟨rfl, rfl⟩, fun q => absurd q (by assumption)⟩
