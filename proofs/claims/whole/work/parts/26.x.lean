theorem lf8 {S : rS} (hB : Bd S) {f : Int} (hf : 0 ≤ f ∧ f < 7) : 0 ≤ S 236 (0 + f) ∧ S 236 (0 + f) ≤ 255 := by
  have q := bdc_236_0 hB f
  exact ⟨q.1, q.2.2 hf⟩
theorem mM_r {S : rS} (hB : Bd S) {f : Int} (hf : 0 ≤ f ∧ f < 7) : 0 ≤ mins (S 233 (1 + f)) (pop (S 236 (0 + f))) ∧ mins (S 233 (1 + f)) (pop (S 236 (0 + f))) ≤ 34 := mins34 (lf8 hB hf)
theorem c_X11_minutesAt {f : Int} {S : rS} (hB : Bd S) (h_f : 0 ≤ f ∧ f < 7) : CS 2 104 [.inr (.inr 232), .inl f] S (fun r' S' => r' = some (.inl (mins (S 233 (1 + f)) (pop (S 236 (0 + f))))) ∧ S' = S) := by
  refine RS.beg (ls := [some (.inr (.inr 232)), some (.inl f)]) rfl rfl rfl rfl rfl ?_
  refine r_aload (pc' := 1) rfl rfl rfl ?_
  refine r_getr (pc' := 4) (v := 233) rfl rfl rfl rfl rfl ?_
  refine r_const (pc' := 5) rfl rfl ?_
  refine r_iload (pc' := 6) rfl rfl rfl ?_
  refine r_iadd (pc' := 7) rfl rfl ?_
  refine r_aldv (pc' := 8) (v := (S 233 (1 + f))) 187 rfl rfl rfl (by omega) rfl ?_
  have b1 := bdc_233_1 hB f
  refine r_aload (pc' := 9) rfl rfl rfl ?_
  refine r_getr (pc' := 12) (v := 236) rfl rfl rfl rfl rfl ?_
  refine r_const (pc' := 13) rfl rfl ?_
  refine r_iload (pc' := 14) rfl rfl rfl ?_
  refine r_iadd (pc' := 15) rfl rfl ?_
  refine r_aldv (pc' := 16) (v := (S 236 (0 + f))) 12 rfl rfl rfl (by omega) rfl ?_
  have b2 := bdc_236_0 hB f
  refine q_callE (pc' := 19) (w := some (.inl (pop (S 236 (0 + f))))) (S2 := S) (st' := [.inl (pop (S 236 (0 + f))), .inl (S 233 (1 + f))]) rfl rfl rfl (c_X11_bits (a := (S 236 (0 + f))) (S := S)  (show 0 ≤ (S 236 (0 + f)) ∧ (S 236 (0 + f)) < 512 from by omega)) (by decide) rfl rfl (Nat.le_of_ble_eq_true rfl) (fun q => absurd rfl q) rfl rfl ?_
  have b3 : 0 ≤ (pop (S 236 (0 + f))) ∧ (pop (S 236 (0 + f))) ≤ 9 := pop_r _
  refine q_callE (pc' := 22) (w := some (.inl (mins (S 233 (1 + f)) (pop (S 236 (0 + f)))))) (S2 := S) (st' := [.inl (mins (S 233 (1 + f)) (pop (S 236 (0 + f))))]) rfl rfl rfl (c_X11_minutesOf (k := (S 233 (1 + f))) (n := (pop (S 236 (0 + f)))) (S := S)  (show -2147483648 ≤ (S 233 (1 + f)) ∧ (S 233 (1 + f)) < 2147483648 from by omega) (show 0 ≤ (pop (S 236 (0 + f))) ∧ (pop (S 236 (0 + f))) < 1000 from by omega)) (by decide) rfl rfl (Nat.le_of_ble_eq_true rfl) (fun q => absurd rfl q) rfl rfl ?_
  have b4 : 0 ≤ (mins (S 233 (1 + f)) (pop (S 236 (0 + f)))) ∧ (mins (S 233 (1 + f)) (pop (S 236 (0 + f)))) ≤ 4 * (pop (S 236 (0 + f))) + 2 := mins_r (by omega)
  refine q_iret rfl rfl rfl ?_
  exact ⟨rfl, rfl⟩
theorem c_X11_birdsAt {f : Int} {S : rS} (hB : Bd S) (h_f : 0 ≤ f ∧ f < 7) : CS 2 62 [.inr (.inr 232), .inl f] S (fun r' S' => r' = some (.inl (bs (fun kk => tb (S 236 (0 + f)) kk ∧ btake (S 233 (1 + f)) (S 233 (29 + 8 * f + kk))) (S 233 (22 + f)))) ∧ S' = S) := by
  refine RS.beg (ls := [some (.inr (.inr 232)), some (.inl f), none, none]) rfl rfl rfl rfl rfl ?_
  have b22 := bdc_233_22 hB f
  refine r_const (pc' := 1) rfl rfl ?_
  refine r_istore (pc' := 2) (ls' := [some (.inr (.inr 232)), some (.inl f), some (.inl 0), none]) rfl rfl rfl rfl ?_
  refine r_const (pc' := 3) rfl rfl ?_
  refine r_istore (pc' := 4) (ls' := [some (.inr (.inr 232)), some (.inl f), some (.inl 0), some (.inl 0)]) rfl rfl rfl rfl ?_
  refine r_while (α := Int × Int) (fun z' => [some (.inr (.inr 232)), some (.inl f), some (.inl z'.2), some (.inl z'.1)]) (fun z' => S) (fun z' => (0 ≤ z'.1 ∧ z'.1 ≤ S 233 (22 + f)) ∧ (0 ≤ z'.2 ∧ z'.2 < 256) ∧ (z'.2 = bs (fun kk => tb (S 236 (0 + f)) kk ∧ btake (S 233 (1 + f)) (S 233 (29 + 8 * f + kk))) z'.1)) (fun z' => (S 233 (22 + f) - z'.1).toNat) ?_ (0, 0) (show (0 ≤ (0 : Int) ∧ (0 : Int) ≤ S 233 (22 + f)) ∧ (0 ≤ (0 : Int) ∧ (0 : Int) < 256) ∧ ((0 : Int) = bs (fun kk => tb (S 236 (0 + f)) kk ∧ btake (S 233 (1 + f)) (S 233 (29 + 8 * f + kk))) (0 : Int)) from by exact ⟨by omega, by omega, rfl⟩)
  rintro ⟨q, s⟩ hI' ih4
  have hI' : (0 ≤ q ∧ q ≤ S 233 (22 + f)) ∧ (0 ≤ s ∧ s < 256) ∧ (s = bs (fun kk => tb (S 236 (0 + f)) kk ∧ btake (S 233 (1 + f)) (S 233 (29 + 8 * f + kk))) q) := hI'
  obtain ⟨i1, i3, i2⟩ := hI'
  show RS _ _ _ _ [some (.inr (.inr 232)), some (.inl f), some (.inl s), some (.inl q)] [] S
  have b1 := bdc_233_22 hB f
  have b2 := bdc_236_0 hB f
  have b3 := bdc_233_1 hB f
  refine r_iload (pc' := 5) rfl rfl rfl ?_
  refine r_aload (pc' := 6) rfl rfl rfl ?_
  refine r_getr (pc' := 9) (v := 233) rfl rfl rfl rfl rfl ?_
  refine r_const (pc' := 11) rfl rfl ?_
  refine r_iload (pc' := 12) rfl rfl rfl ?_
  refine r_iadd (pc' := 13) rfl rfl ?_
  refine r_aldv (pc' := 14) (v := (S 233 (22 + f))) 187 rfl rfl rfl (by omega) rfl ?_
  by_cases h4 : q < (S 233 (22 + f))
  · refine r_icmp_ge0 (pc' := 17) rfl rfl (by omega) (by omega) ?_
    refine r_iload (pc' := 18) rfl rfl rfl ?_
    refine r_aload (pc' := 19) rfl rfl rfl ?_
    refine r_getr (pc' := 22) (v := 236) rfl rfl rfl rfl rfl ?_
    refine r_const (pc' := 23) rfl rfl ?_
    refine r_iload (pc' := 24) rfl rfl rfl ?_
    refine r_iadd (pc' := 25) rfl rfl ?_
    refine r_aldv (pc' := 26) (v := (S 236 (0 + f))) 12 rfl rfl rfl (by omega) rfl ?_
    refine r_iload (pc' := 27) rfl rfl rfl ?_
    by_cases h5 : tb (S 236 (0 + f)) q
    · skip
      refine q_callE (pc' := 30) (w := some (.inl 1)) (S2 := S) (st' := [.inl 1, .inl s]) rfl rfl rfl (bi_pos h5 (c_X11_has (s := (S 236 (0 + f))) (q := q) (S := S)  (show -2147483648 ≤ (S 236 (0 + f)) ∧ (S 236 (0 + f)) < 2147483648 from by omega) (show 0 ≤ q ∧ q < 32 from by omega))) (by decide) rfl rfl (Nat.le_of_ble_eq_true rfl) (fun q => absurd rfl q) rfl rfl ?_
      refine r_if_eq0 (pc' := 33) rfl rfl (by decide) (by decide) ?_
      refine r_aload (pc' := 34) rfl rfl rfl ?_
      refine r_getr (pc' := 37) (v := 233) rfl rfl rfl rfl rfl ?_
      refine r_const (pc' := 38) rfl rfl ?_
      refine r_iload (pc' := 39) rfl rfl rfl ?_
      refine r_iadd (pc' := 40) rfl rfl ?_
      refine r_aldv (pc' := 41) (v := (S 233 (1 + f))) 187 rfl rfl rfl (by omega) rfl ?_
      refine r_aload (pc' := 42) rfl rfl rfl ?_
      refine r_getr (pc' := 45) (v := 233) rfl rfl rfl rfl rfl ?_
      refine r_const (pc' := 47) rfl rfl ?_
      refine r_const (pc' := 49) rfl rfl ?_
      refine r_iload (pc' := 50) rfl rfl rfl ?_
      refine r_imul (pc' := 51) rfl rfl ?_
      refine r_iadd (pc' := 52) rfl rfl ?_
      refine r_iload (pc' := 53) rfl rfl rfl ?_
      refine r_iadd (pc' := 54) rfl rfl ?_
      refine r_aldv (pc' := 55) (v := (S 233 ((29 + (8 * f)) + q))) 187 rfl rfl rfl (by omega) rfl ?_
      have b6 := bda_233 hB ((29 + (8 * f)) + q)
      by_cases h7 : btake (S 233 (1 + f)) (S 233 ((29 + (8 * f)) + q))
      · skip
        refine q_callE (pc' := 58) (w := some (.inl 1)) (S2 := S) (st' := [.inl 1, .inl s]) rfl rfl rfl (bi_pos h7 (c_X11_birdsTake (k := (S 233 (1 + f))) (c := (S 233 ((29 + (8 * f)) + q))) (S := S)  (show -2147483648 ≤ (S 233 (1 + f)) ∧ (S 233 (1 + f)) < 2147483648 from by omega) (show -2147483648 ≤ (S 233 ((29 + (8 * f)) + q)) ∧ (S 233 ((29 + (8 * f)) + q)) < 2147483648 from by omega))) (by decide) rfl rfl (Nat.le_of_ble_eq_true rfl) (fun q => absurd rfl q) rfl rfl ?_
        refine r_if_eq0 (pc' := 61) rfl rfl (by decide) (by decide) ?_
        refine r_const (pc' := 62) rfl rfl ?_
        refine r_iload (pc' := 63) rfl rfl rfl ?_
        refine r_ishl (pc' := 64) rfl rfl ?_
        have b8 := mx_shl_r 1 q
        have e9 := shl_u (k := q) 8 (by omega) (by omega)
        refine r_goto (pc' := 68) rfl rfl ?_
        refine r_ior (pc' := 69) rfl rfl ?_
        have b10 := mx_or_r s (mx_shl 1 q)
        have e11 := or_u (a := s) (b := mx_shl 1 q) 8 (by omega) (by omega) (by omega) (by omega) (by omega)
        refine r_istore (pc' := 70) (ls' := [some (.inr (.inr 232)), some (.inl f), some (.inl (mx_or s (mx_shl 1 q))), some (.inl q)]) rfl rfl rfl rfl ?_
        refine r_iinc (pc' := 73) (ls' := [some (.inr (.inr 232)), some (.inl f), some (.inl (mx_or s (mx_shl 1 q))), some (.inl (q + 1))]) rfl rfl rfl rfl rfl ?_
        refine r_goto (pc' := 4) rfl rfl ?_
        exact ih4 ((q + 1), (mx_or s (mx_shl 1 q))) (show (0 ≤ (q + 1) ∧ (q + 1) ≤ S 233 (22 + f)) ∧ (0 ≤ (mx_or s (mx_shl 1 q)) ∧ (mx_or s (mx_shl 1 q)) < 256) ∧ ((mx_or s (mx_shl 1 q)) = bs (fun kk => tb (S 236 (0 + f)) kk ∧ btake (S 233 (1 + f)) (S 233 (29 + 8 * f + kk))) (q + 1)) from by exact ⟨by omega, by omega, by rw [i2]; exact (bs_t (by omega) ⟨h5, h7⟩).symm⟩) (show (S 233 (22 + f) - (q + 1)).toNat < (S 233 (22 + f) - q).toNat from by omega)
      · skip
        refine q_callE (pc' := 58) (w := some (.inl 0)) (S2 := S) (st' := [.inl 0, .inl s]) rfl rfl rfl (bi_neg h7 (c_X11_birdsTake (k := (S 233 (1 + f))) (c := (S 233 ((29 + (8 * f)) + q))) (S := S)  (show -2147483648 ≤ (S 233 (1 + f)) ∧ (S 233 (1 + f)) < 2147483648 from by omega) (show -2147483648 ≤ (S 233 ((29 + (8 * f)) + q)) ∧ (S 233 ((29 + (8 * f)) + q)) < 2147483648 from by omega))) (by decide) rfl rfl (Nat.le_of_ble_eq_true rfl) (fun q => absurd rfl q) rfl rfl ?_
        refine r_if_eq1 (pc' := 67) rfl rfl (by decide) (by decide) ?_
        refine r_const (pc' := 68) rfl rfl ?_
        refine r_ior (pc' := 69) rfl rfl ?_
        have b12 := mx_or_r s 0
        have e13 := mx_or0 (a := s) (by omega)
        refine r_istore (pc' := 70) (ls' := [some (.inr (.inr 232)), some (.inl f), some (.inl (mx_or s 0)), some (.inl q)]) rfl rfl rfl rfl ?_
        refine r_iinc (pc' := 73) (ls' := [some (.inr (.inr 232)), some (.inl f), some (.inl (mx_or s 0)), some (.inl (q + 1))]) rfl rfl rfl rfl rfl ?_
        refine r_goto (pc' := 4) rfl rfl ?_
        exact ih4 ((q + 1), (mx_or s 0)) (show (0 ≤ (q + 1) ∧ (q + 1) ≤ S 233 (22 + f)) ∧ (0 ≤ (mx_or s 0) ∧ (mx_or s 0) < 256) ∧ ((mx_or s 0) = bs (fun kk => tb (S 236 (0 + f)) kk ∧ btake (S 233 (1 + f)) (S 233 (29 + 8 * f + kk))) (q + 1)) from by exact ⟨by omega, by omega, by rw [mx_or0 (by omega), i2]; exact (bs_f (by omega) (fun q => absurd q.2 h7)).symm⟩) (show (S 233 (22 + f) - (q + 1)).toNat < (S 233 (22 + f) - q).toNat from by omega)
    · skip
      refine q_callE (pc' := 30) (w := some (.inl 0)) (S2 := S) (st' := [.inl 0, .inl s]) rfl rfl rfl (bi_neg h5 (c_X11_has (s := (S 236 (0 + f))) (q := q) (S := S)  (show -2147483648 ≤ (S 236 (0 + f)) ∧ (S 236 (0 + f)) < 2147483648 from by omega) (show 0 ≤ q ∧ q < 32 from by omega))) (by decide) rfl rfl (Nat.le_of_ble_eq_true rfl) (fun q => absurd rfl q) rfl rfl ?_
      refine r_if_eq1 (pc' := 67) rfl rfl (by decide) (by decide) ?_
      refine r_const (pc' := 68) rfl rfl ?_
      refine r_ior (pc' := 69) rfl rfl ?_
      have b14 := mx_or_r s 0
      have e15 := mx_or0 (a := s) (by omega)
      refine r_istore (pc' := 70) (ls' := [some (.inr (.inr 232)), some (.inl f), some (.inl (mx_or s 0)), some (.inl q)]) rfl rfl rfl rfl ?_
      refine r_iinc (pc' := 73) (ls' := [some (.inr (.inr 232)), some (.inl f), some (.inl (mx_or s 0)), some (.inl (q + 1))]) rfl rfl rfl rfl rfl ?_
      refine r_goto (pc' := 4) rfl rfl ?_
      exact ih4 ((q + 1), (mx_or s 0)) (show (0 ≤ (q + 1) ∧ (q + 1) ≤ S 233 (22 + f)) ∧ (0 ≤ (mx_or s 0) ∧ (mx_or s 0) < 256) ∧ ((mx_or s 0) = bs (fun kk => tb (S 236 (0 + f)) kk ∧ btake (S 233 (1 + f)) (S 233 (29 + 8 * f + kk))) (q + 1)) from by exact ⟨by omega, by omega, by rw [mx_or0 (by omega), i2]; exact (bs_f (by omega) (fun q => absurd q.1 h5)).symm⟩) (show (S 233 (22 + f) - (q + 1)).toNat < (S 233 (22 + f) - q).toNat from by omega)
  · refine r_icmp_ge1 (pc' := 76) rfl rfl (by omega) (by omega) ?_
    refine r_iload (pc' := 77) rfl rfl rfl ?_
    refine q_iret rfl rfl rfl ?_
    obtain rfl : q = S 233 (22 + f) := by omega
    exact ⟨by rw [i2], rfl⟩
/-- the places that rain takes, as the reference finds them -/
def rns (pl : Int → Int) (many l : Int) : Int → Int → Int := fun kk s => if tb l (pl kk) ∧ pop s < many then mx_or s (mx_shl 1 (pl kk)) else s
def rpl (k x : Int) : Int := if k = 3 then x else 7 - x
def rnm (k l r : Int) : Int := fo (rns (rpl k) (if k = 1 then 0 else if k = 2 then r - 3 else r) l) 0 8
theorem rnm_r {k l r : Int} : 0 ≤ rnm k l r ∧ rnm k l r < 256 := by
  have := fo_ind (f := rns (rpl k) (if k = 1 then 0 else if k = 2 then r - 3 else r) l) (a := (0 : Int)) (fun _ z => 0 ≤ z ∧ z < 256) (by decide) (N := 8) (fun x s x0 x1 hs => by
    show 0 ≤ rns _ _ l x s ∧ rns _ _ l x s < 256
    have e : rns (rpl k) (if k = 1 then 0 else if k = 2 then r - 3 else r) l x s = mx_or s (mx_shl 1 (rpl k x)) ∨ rns (rpl k) (if k = 1 then 0 else if k = 2 then r - 3 else r) l x s = s := by
      generalize (if k = 1 then 0 else if k = 2 then r - 3 else r) = m
      unfold rns; split
      · exact Or.inl rfl
      · exact Or.inr rfl
    rcases e with e | e
    · rw [e]
      have q := shl_u (k := rpl k x) 8 (by omega) (by unfold rpl; split <;> omega)
      exact or_u (a := s) 8 (by omega) hs q (by omega) (by omega)
    · rw [e]; exact hs) 8 (Nat.le_refl _)
  exact this
theorem c_X11_rainAt {f : Int} {r : Int} {S : rS} (hB : Bd S) (h_f : 0 ≤ f ∧ f < 7) (h_r : 1 ≤ r ∧ r ≤ 9) : CS 2 112 [.inr (.inr 232), .inl f, .inl r] S (fun r' S' => r' = some (.inl (rnm (S 233 (1 + f)) (S 236 (0 + f)) r)) ∧ S' = S) := by
  refine RS.beg (ls := [some (.inr (.inr 232)), some (.inl f), some (.inl r), none, none, none, none, none]) rfl rfl rfl rfl rfl ?_
  refine r_aload (pc' := 1) rfl rfl rfl ?_
  refine r_getr (pc' := 4) (v := 233) rfl rfl rfl rfl rfl ?_
  refine r_const (pc' := 5) rfl rfl ?_
  refine r_iload (pc' := 6) rfl rfl rfl ?_
  refine r_iadd (pc' := 7) rfl rfl ?_
  refine r_aldv (pc' := 8) (v := (S 233 (1 + f))) 187 rfl rfl rfl (by omega) rfl ?_
  have b1 := bdc_233_1 hB f
  refine r_istore (pc' := 9) (ls' := [some (.inr (.inr 232)), some (.inl f), some (.inl r), some (.inl (S 233 (1 + f))), none, none, none, none]) rfl rfl rfl rfl ?_
  refine r_iload (pc' := 10) rfl rfl rfl ?_
  refine r_const (pc' := 11) rfl rfl ?_
  by_cases h2 : (S 233 (1 + f)) = 1
  · refine r_icmp_ne0 (pc' := 14) rfl rfl (by omega) (by omega) ?_
    refine r_const (pc' := 15) rfl rfl ?_
    refine r_goto (pc' := 30) rfl rfl ?_
    refine r_istore (pc' := 32) (ls' := [some (.inr (.inr 232)), some (.inl f), some (.inl r), some (.inl (S 233 (1 + f))), some (.inl 0), none, none, none]) rfl rfl rfl rfl ?_
    refine r_const (pc' := 33) rfl rfl ?_
    refine r_istore (pc' := 35) (ls' := [some (.inr (.inr 232)), some (.inl f), some (.inl r), some (.inl (S 233 (1 + f))), some (.inl 0), some (.inl 0), none, none]) rfl rfl rfl rfl ?_
    refine r_const (pc' := 36) rfl rfl ?_
    refine r_istore (pc' := 38) (ls' := [some (.inr (.inr 232)), some (.inl f), some (.inl r), some (.inl (S 233 (1 + f))), some (.inl 0), some (.inl 0), some (.inl 0), none]) rfl rfl rfl rfl ?_
    refine r_while (α := Int × Int) (fun z' => [some (.inr (.inr 232)), some (.inl f), some (.inl r), some (.inl (S 233 (1 + f))), some (.inl 0), some (.inl z'.1), some (.inl z'.2), none]) (fun z' => S) (fun z' => (0 ≤ z'.2 ∧ z'.2 ≤ 8) ∧ (0 ≤ z'.1 ∧ z'.1 < 256) ∧ (z'.1 = fo (rns (rpl (S 233 (1 + f))) (0 : Int) (S 236 (0 + f))) 0 (z'.2).toNat)) (fun z' => (8 - z'.2).toNat) ?_ (0, 0) (show (0 ≤ (0 : Int) ∧ (0 : Int) ≤ 8) ∧ (0 ≤ (0 : Int) ∧ (0 : Int) < 256) ∧ ((0 : Int) = fo (rns (rpl (S 233 (1 + f))) (0 : Int) (S 236 (0 + f))) 0 (0 : Int).toNat) from by exact ⟨by omega, by omega, rfl⟩)
    rintro ⟨s, x⟩ hI' ih38
    have hI' : (0 ≤ x ∧ x ≤ 8) ∧ (0 ≤ s ∧ s < 256) ∧ (s = fo (rns (rpl (S 233 (1 + f))) (0 : Int) (S 236 (0 + f))) 0 x.toNat) := hI'
    obtain ⟨i1, i3, i2⟩ := hI'
    show RS _ _ _ _ [some (.inr (.inr 232)), some (.inl f), some (.inl r), some (.inl (S 233 (1 + f))), some (.inl 0), some (.inl s), some (.inl x), none] [] S
    have b3 := bdc_236_0 hB f
    refine r_iload (pc' := 40) rfl rfl rfl ?_
    refine r_const (pc' := 42) rfl rfl ?_
    by_cases h4 : x < 8
    · refine r_icmp_ge0 (pc' := 45) rfl rfl (by omega) (by omega) ?_
      refine r_iload (pc' := 46) rfl rfl rfl ?_
      refine r_const (pc' := 47) rfl rfl ?_
      by_cases h5 : (S 233 (1 + f)) = 3
      · refine r_icmp_ne0 (pc' := 50) rfl rfl (by omega) (by omega) ?_
        refine r_iload (pc' := 52) rfl rfl rfl ?_
        refine r_goto (pc' := 60) rfl rfl ?_
        refine r_istore (pc' := 62) (ls' := [some (.inr (.inr 232)), some (.inl f), some (.inl r), some (.inl (S 233 (1 + f))), some (.inl 0), some (.inl s), some (.inl x), some (.inl x)]) rfl rfl rfl rfl ?_
        refine r_iload (pc' := 64) rfl rfl rfl ?_
        refine r_aload (pc' := 65) rfl rfl rfl ?_
        refine r_getr (pc' := 68) (v := 236) rfl rfl rfl rfl rfl ?_
        refine r_const (pc' := 69) rfl rfl ?_
        refine r_iload (pc' := 70) rfl rfl rfl ?_
        refine r_iadd (pc' := 71) rfl rfl ?_
        refine r_aldv (pc' := 72) (v := (S 236 (0 + f))) 12 rfl rfl rfl (by omega) rfl ?_
        refine r_iload (pc' := 74) rfl rfl rfl ?_
        by_cases h6 : tb (S 236 (0 + f)) x
        · skip
          refine q_callE (pc' := 77) (w := some (.inl 1)) (S2 := S) (st' := [.inl 1, .inl s]) rfl rfl rfl (bi_pos h6 (c_X11_has (s := (S 236 (0 + f))) (q := x) (S := S)  (show -2147483648 ≤ (S 236 (0 + f)) ∧ (S 236 (0 + f)) < 2147483648 from by omega) (show 0 ≤ x ∧ x < 32 from by omega))) (by decide) rfl rfl (Nat.le_of_ble_eq_true rfl) (fun q => absurd rfl q) rfl rfl ?_
          refine r_if_eq0 (pc' := 80) rfl rfl (by decide) (by decide) ?_
          refine r_iload (pc' := 82) rfl rfl rfl ?_
          refine q_callE (pc' := 85) (w := some (.inl (pop s))) (S2 := S) (st' := [.inl (pop s), .inl s]) rfl rfl rfl (c_X11_bits (a := s) (S := S)  (show 0 ≤ s ∧ s < 512 from by omega)) (by decide) rfl rfl (Nat.le_of_ble_eq_true rfl) (fun q => absurd rfl q) rfl rfl ?_
          have b7 : 0 ≤ (pop s) ∧ (pop s) ≤ 9 := pop_r _
          refine r_iload (pc' := 87) rfl rfl rfl ?_
          by_cases h8 : (pop s) < 0
          · refine r_icmp_ge0 (pc' := 90) rfl rfl (by omega) (by omega) ?_
            refine r_const (pc' := 91) rfl rfl ?_
            refine r_iload (pc' := 93) rfl rfl rfl ?_
            refine r_ishl (pc' := 94) rfl rfl ?_
            have b9 := mx_shl_r 1 x
            have e10 := shl_u (k := x) 8 (by omega) (by omega)
            refine r_goto (pc' := 98) rfl rfl ?_
            refine r_ior (pc' := 99) rfl rfl ?_
            have b11 := mx_or_r s (mx_shl 1 x)
            have e12 := or_u (a := s) (b := mx_shl 1 x) 8 (by omega) (by omega) (by omega) (by omega) (by omega)
            refine r_istore (pc' := 101) (ls' := [some (.inr (.inr 232)), some (.inl f), some (.inl r), some (.inl (S 233 (1 + f))), some (.inl 0), some (.inl (mx_or s (mx_shl 1 x))), some (.inl x), some (.inl x)]) rfl rfl rfl rfl ?_
            refine r_iinc (pc' := 104) (ls' := [some (.inr (.inr 232)), some (.inl f), some (.inl r), some (.inl (S 233 (1 + f))), some (.inl 0), some (.inl (mx_or s (mx_shl 1 x))), some (.inl (x + 1)), some (.inl x)]) rfl rfl rfl rfl rfl ?_
            refine r_goto (pc' := 38) rfl rfl ?_
            refine r_forget [true, true, true, true, true, true, true, false] rfl ?_
            exact ih38 ((mx_or s (mx_shl 1 x)), (x + 1)) (show (0 ≤ (x + 1) ∧ (x + 1) ≤ 8) ∧ (0 ≤ (mx_or s (mx_shl 1 x)) ∧ (mx_or s (mx_shl 1 x)) < 256) ∧ ((mx_or s (mx_shl 1 x)) = fo (rns (rpl (S 233 (1 + f))) (0 : Int) (S 236 (0 + f))) 0 (x + 1).toNat) from by exact ⟨by omega, by omega, by rw [fo_s (by omega), ← i2]; unfold rns; rw [show rpl (S 233 (1 + f)) x = x from if_pos h5]; exact (if_pos ⟨h6, h8⟩).symm⟩) (show (8 - (x + 1)).toNat < (8 - x).toNat from by omega)
          · refine r_icmp_ge1 (pc' := 97) rfl rfl (by omega) (by omega) ?_
            refine r_const (pc' := 98) rfl rfl ?_
            refine r_ior (pc' := 99) rfl rfl ?_
            have b13 := mx_or_r s 0
            have e14 := mx_or0 (a := s) (by omega)
            refine r_istore (pc' := 101) (ls' := [some (.inr (.inr 232)), some (.inl f), some (.inl r), some (.inl (S 233 (1 + f))), some (.inl 0), some (.inl (mx_or s 0)), some (.inl x), some (.inl x)]) rfl rfl rfl rfl ?_
            refine r_iinc (pc' := 104) (ls' := [some (.inr (.inr 232)), some (.inl f), some (.inl r), some (.inl (S 233 (1 + f))), some (.inl 0), some (.inl (mx_or s 0)), some (.inl (x + 1)), some (.inl x)]) rfl rfl rfl rfl rfl ?_
            refine r_goto (pc' := 38) rfl rfl ?_
            refine r_forget [true, true, true, true, true, true, true, false] rfl ?_
            exact ih38 ((mx_or s 0), (x + 1)) (show (0 ≤ (x + 1) ∧ (x + 1) ≤ 8) ∧ (0 ≤ (mx_or s 0) ∧ (mx_or s 0) < 256) ∧ ((mx_or s 0) = fo (rns (rpl (S 233 (1 + f))) (0 : Int) (S 236 (0 + f))) 0 (x + 1).toNat) from by exact ⟨by omega, by omega, by rw [fo_s (by omega), ← i2]; unfold rns; rw [show rpl (S 233 (1 + f)) x = x from if_pos h5]; rw [mx_or0 (by omega)]; exact (if_neg (fun q => absurd q.2 h8)).symm⟩) (show (8 - (x + 1)).toNat < (8 - x).toNat from by omega)
        · skip
          refine q_callE (pc' := 77) (w := some (.inl 0)) (S2 := S) (st' := [.inl 0, .inl s]) rfl rfl rfl (bi_neg h6 (c_X11_has (s := (S 236 (0 + f))) (q := x) (S := S)  (show -2147483648 ≤ (S 236 (0 + f)) ∧ (S 236 (0 + f)) < 2147483648 from by omega) (show 0 ≤ x ∧ x < 32 from by omega))) (by decide) rfl rfl (Nat.le_of_ble_eq_true rfl) (fun q => absurd rfl q) rfl rfl ?_
          refine r_if_eq1 (pc' := 97) rfl rfl (by decide) (by decide) ?_
          refine r_const (pc' := 98) rfl rfl ?_
          refine r_ior (pc' := 99) rfl rfl ?_
          have b15 := mx_or_r s 0
          have e16 := mx_or0 (a := s) (by omega)
          refine r_istore (pc' := 101) (ls' := [some (.inr (.inr 232)), some (.inl f), some (.inl r), some (.inl (S 233 (1 + f))), some (.inl 0), some (.inl (mx_or s 0)), some (.inl x), some (.inl x)]) rfl rfl rfl rfl ?_
          refine r_iinc (pc' := 104) (ls' := [some (.inr (.inr 232)), some (.inl f), some (.inl r), some (.inl (S 233 (1 + f))), some (.inl 0), some (.inl (mx_or s 0)), some (.inl (x + 1)), some (.inl x)]) rfl rfl rfl rfl rfl ?_
          refine r_goto (pc' := 38) rfl rfl ?_
          refine r_forget [true, true, true, true, true, true, true, false] rfl ?_
          exact ih38 ((mx_or s 0), (x + 1)) (show (0 ≤ (x + 1) ∧ (x + 1) ≤ 8) ∧ (0 ≤ (mx_or s 0) ∧ (mx_or s 0) < 256) ∧ ((mx_or s 0) = fo (rns (rpl (S 233 (1 + f))) (0 : Int) (S 236 (0 + f))) 0 (x + 1).toNat) from by exact ⟨by omega, by omega, by rw [fo_s (by omega), ← i2]; unfold rns; rw [show rpl (S 233 (1 + f)) x = x from if_pos h5]; rw [mx_or0 (by omega)]; exact (if_neg (fun q => absurd q.1 h6)).symm⟩) (show (8 - (x + 1)).toNat < (8 - x).toNat from by omega)
      · refine r_icmp_ne1 (pc' := 55) rfl rfl (by omega) (by omega) ?_
        refine r_const (pc' := 57) rfl rfl ?_
        refine r_iload (pc' := 59) rfl rfl rfl ?_
        refine r_isub (pc' := 60) rfl rfl ?_
        refine r_istore (pc' := 62) (ls' := [some (.inr (.inr 232)), some (.inl f), some (.inl r), some (.inl (S 233 (1 + f))), some (.inl 0), some (.inl s), some (.inl x), some (.inl (7 - x))]) rfl rfl rfl rfl ?_
        refine r_iload (pc' := 64) rfl rfl rfl ?_
        refine r_aload (pc' := 65) rfl rfl rfl ?_
        refine r_getr (pc' := 68) (v := 236) rfl rfl rfl rfl rfl ?_
        refine r_const (pc' := 69) rfl rfl ?_
        refine r_iload (pc' := 70) rfl rfl rfl ?_
        refine r_iadd (pc' := 71) rfl rfl ?_
        refine r_aldv (pc' := 72) (v := (S 236 (0 + f))) 12 rfl rfl rfl (by omega) rfl ?_
        refine r_iload (pc' := 74) rfl rfl rfl ?_
        by_cases h17 : tb (S 236 (0 + f)) (7 - x)
        · skip
          refine q_callE (pc' := 77) (w := some (.inl 1)) (S2 := S) (st' := [.inl 1, .inl s]) rfl rfl rfl (bi_pos h17 (c_X11_has (s := (S 236 (0 + f))) (q := (7 - x)) (S := S)  (show -2147483648 ≤ (S 236 (0 + f)) ∧ (S 236 (0 + f)) < 2147483648 from by omega) (show 0 ≤ (7 - x) ∧ (7 - x) < 32 from by omega))) (by decide) rfl rfl (Nat.le_of_ble_eq_true rfl) (fun q => absurd rfl q) rfl rfl ?_
          refine r_if_eq0 (pc' := 80) rfl rfl (by decide) (by decide) ?_
          refine r_iload (pc' := 82) rfl rfl rfl ?_
          refine q_callE (pc' := 85) (w := some (.inl (pop s))) (S2 := S) (st' := [.inl (pop s), .inl s]) rfl rfl rfl (c_X11_bits (a := s) (S := S)  (show 0 ≤ s ∧ s < 512 from by omega)) (by decide) rfl rfl (Nat.le_of_ble_eq_true rfl) (fun q => absurd rfl q) rfl rfl ?_
          have b18 : 0 ≤ (pop s) ∧ (pop s) ≤ 9 := pop_r _
          refine r_iload (pc' := 87) rfl rfl rfl ?_
          by_cases h19 : (pop s) < 0
          · refine r_icmp_ge0 (pc' := 90) rfl rfl (by omega) (by omega) ?_
            refine r_const (pc' := 91) rfl rfl ?_
            refine r_iload (pc' := 93) rfl rfl rfl ?_
            refine r_ishl (pc' := 94) rfl rfl ?_
            have b20 := mx_shl_r 1 (7 - x)
            have e21 := shl_u (k := (7 - x)) 8 (by omega) (by omega)
            refine r_goto (pc' := 98) rfl rfl ?_
            refine r_ior (pc' := 99) rfl rfl ?_
            have b22 := mx_or_r s (mx_shl 1 (7 - x))
            have e23 := or_u (a := s) (b := mx_shl 1 (7 - x)) 8 (by omega) (by omega) (by omega) (by omega) (by omega)
            refine r_istore (pc' := 101) (ls' := [some (.inr (.inr 232)), some (.inl f), some (.inl r), some (.inl (S 233 (1 + f))), some (.inl 0), some (.inl (mx_or s (mx_shl 1 (7 - x)))), some (.inl x), some (.inl (7 - x))]) rfl rfl rfl rfl ?_
            refine r_iinc (pc' := 104) (ls' := [some (.inr (.inr 232)), some (.inl f), some (.inl r), some (.inl (S 233 (1 + f))), some (.inl 0), some (.inl (mx_or s (mx_shl 1 (7 - x)))), some (.inl (x + 1)), some (.inl (7 - x))]) rfl rfl rfl rfl rfl ?_
            refine r_goto (pc' := 38) rfl rfl ?_
            refine r_forget [true, true, true, true, true, true, true, false] rfl ?_
            exact ih38 ((mx_or s (mx_shl 1 (7 - x))), (x + 1)) (show (0 ≤ (x + 1) ∧ (x + 1) ≤ 8) ∧ (0 ≤ (mx_or s (mx_shl 1 (7 - x))) ∧ (mx_or s (mx_shl 1 (7 - x))) < 256) ∧ ((mx_or s (mx_shl 1 (7 - x))) = fo (rns (rpl (S 233 (1 + f))) (0 : Int) (S 236 (0 + f))) 0 (x + 1).toNat) from by exact ⟨by omega, by omega, by rw [fo_s (by omega), ← i2]; unfold rns; rw [show rpl (S 233 (1 + f)) x = 7 - x from if_neg h5]; exact (if_pos ⟨h17, h19⟩).symm⟩) (show (8 - (x + 1)).toNat < (8 - x).toNat from by omega)
          · refine r_icmp_ge1 (pc' := 97) rfl rfl (by omega) (by omega) ?_
            refine r_const (pc' := 98) rfl rfl ?_
            refine r_ior (pc' := 99) rfl rfl ?_
            have b24 := mx_or_r s 0
            have e25 := mx_or0 (a := s) (by omega)
            refine r_istore (pc' := 101) (ls' := [some (.inr (.inr 232)), some (.inl f), some (.inl r), some (.inl (S 233 (1 + f))), some (.inl 0), some (.inl (mx_or s 0)), some (.inl x), some (.inl (7 - x))]) rfl rfl rfl rfl ?_
            refine r_iinc (pc' := 104) (ls' := [some (.inr (.inr 232)), some (.inl f), some (.inl r), some (.inl (S 233 (1 + f))), some (.inl 0), some (.inl (mx_or s 0)), some (.inl (x + 1)), some (.inl (7 - x))]) rfl rfl rfl rfl rfl ?_
            refine r_goto (pc' := 38) rfl rfl ?_
            refine r_forget [true, true, true, true, true, true, true, false] rfl ?_
            exact ih38 ((mx_or s 0), (x + 1)) (show (0 ≤ (x + 1) ∧ (x + 1) ≤ 8) ∧ (0 ≤ (mx_or s 0) ∧ (mx_or s 0) < 256) ∧ ((mx_or s 0) = fo (rns (rpl (S 233 (1 + f))) (0 : Int) (S 236 (0 + f))) 0 (x + 1).toNat) from by exact ⟨by omega, by omega, by rw [fo_s (by omega), ← i2]; unfold rns; rw [show rpl (S 233 (1 + f)) x = 7 - x from if_neg h5]; rw [mx_or0 (by omega)]; exact (if_neg (fun q => absurd q.2 h19)).symm⟩) (show (8 - (x + 1)).toNat < (8 - x).toNat from by omega)
        · skip
          refine q_callE (pc' := 77) (w := some (.inl 0)) (S2 := S) (st' := [.inl 0, .inl s]) rfl rfl rfl (bi_neg h17 (c_X11_has (s := (S 236 (0 + f))) (q := (7 - x)) (S := S)  (show -2147483648 ≤ (S 236 (0 + f)) ∧ (S 236 (0 + f)) < 2147483648 from by omega) (show 0 ≤ (7 - x) ∧ (7 - x) < 32 from by omega))) (by decide) rfl rfl (Nat.le_of_ble_eq_true rfl) (fun q => absurd rfl q) rfl rfl ?_
          refine r_if_eq1 (pc' := 97) rfl rfl (by decide) (by decide) ?_
          refine r_const (pc' := 98) rfl rfl ?_
          refine r_ior (pc' := 99) rfl rfl ?_
          have b26 := mx_or_r s 0
          have e27 := mx_or0 (a := s) (by omega)
          refine r_istore (pc' := 101) (ls' := [some (.inr (.inr 232)), some (.inl f), some (.inl r), some (.inl (S 233 (1 + f))), some (.inl 0), some (.inl (mx_or s 0)), some (.inl x), some (.inl (7 - x))]) rfl rfl rfl rfl ?_
          refine r_iinc (pc' := 104) (ls' := [some (.inr (.inr 232)), some (.inl f), some (.inl r), some (.inl (S 233 (1 + f))), some (.inl 0), some (.inl (mx_or s 0)), some (.inl (x + 1)), some (.inl (7 - x))]) rfl rfl rfl rfl rfl ?_
          refine r_goto (pc' := 38) rfl rfl ?_
          refine r_forget [true, true, true, true, true, true, true, false] rfl ?_
          exact ih38 ((mx_or s 0), (x + 1)) (show (0 ≤ (x + 1) ∧ (x + 1) ≤ 8) ∧ (0 ≤ (mx_or s 0) ∧ (mx_or s 0) < 256) ∧ ((mx_or s 0) = fo (rns (rpl (S 233 (1 + f))) (0 : Int) (S 236 (0 + f))) 0 (x + 1).toNat) from by exact ⟨by omega, by omega, by rw [fo_s (by omega), ← i2]; unfold rns; rw [show rpl (S 233 (1 + f)) x = 7 - x from if_neg h5]; rw [mx_or0 (by omega)]; exact (if_neg (fun q => absurd q.1 h17)).symm⟩) (show (8 - (x + 1)).toNat < (8 - x).toNat from by omega)
    · refine r_icmp_ge1 (pc' := 107) rfl rfl (by omega) (by omega) ?_
      refine r_iload (pc' := 109) rfl rfl rfl ?_
      refine q_iret rfl rfl rfl ?_
      obtain rfl : x = 8 := by omega
      exact ⟨by rw [i2]; unfold rnm; rw [if_pos h2]; rfl, rfl⟩
  · refine r_icmp_ne1 (pc' := 18) rfl rfl (by omega) (by omega) ?_
    refine r_iload (pc' := 19) rfl rfl rfl ?_
    refine r_const (pc' := 20) rfl rfl ?_
    by_cases h28 : (S 233 (1 + f)) = 2
    · refine r_icmp_ne0 (pc' := 23) rfl rfl (by omega) (by omega) ?_
      refine r_iload (pc' := 24) rfl rfl rfl ?_
      refine r_const (pc' := 25) rfl rfl ?_
      refine r_isub (pc' := 26) rfl rfl ?_
      refine r_goto (pc' := 30) rfl rfl ?_
      refine r_istore (pc' := 32) (ls' := [some (.inr (.inr 232)), some (.inl f), some (.inl r), some (.inl (S 233 (1 + f))), some (.inl (r - 3)), none, none, none]) rfl rfl rfl rfl ?_
      refine r_const (pc' := 33) rfl rfl ?_
      refine r_istore (pc' := 35) (ls' := [some (.inr (.inr 232)), some (.inl f), some (.inl r), some (.inl (S 233 (1 + f))), some (.inl (r - 3)), some (.inl 0), none, none]) rfl rfl rfl rfl ?_
      refine r_const (pc' := 36) rfl rfl ?_
      refine r_istore (pc' := 38) (ls' := [some (.inr (.inr 232)), some (.inl f), some (.inl r), some (.inl (S 233 (1 + f))), some (.inl (r - 3)), some (.inl 0), some (.inl 0), none]) rfl rfl rfl rfl ?_
      refine r_while (α := Int × Int) (fun z' => [some (.inr (.inr 232)), some (.inl f), some (.inl r), some (.inl (S 233 (1 + f))), some (.inl (r - 3)), some (.inl z'.1), some (.inl z'.2), none]) (fun z' => S) (fun z' => (0 ≤ z'.2 ∧ z'.2 ≤ 8) ∧ (0 ≤ z'.1 ∧ z'.1 < 256) ∧ (z'.1 = fo (rns (rpl (S 233 (1 + f))) (r - 3) (S 236 (0 + f))) 0 (z'.2).toNat)) (fun z' => (8 - z'.2).toNat) ?_ (0, 0) (show (0 ≤ (0 : Int) ∧ (0 : Int) ≤ 8) ∧ (0 ≤ (0 : Int) ∧ (0 : Int) < 256) ∧ ((0 : Int) = fo (rns (rpl (S 233 (1 + f))) (r - 3) (S 236 (0 + f))) 0 (0 : Int).toNat) from by exact ⟨by omega, by omega, rfl⟩)
      rintro ⟨s, x⟩ hI' ih38
      have hI' : (0 ≤ x ∧ x ≤ 8) ∧ (0 ≤ s ∧ s < 256) ∧ (s = fo (rns (rpl (S 233 (1 + f))) (r - 3) (S 236 (0 + f))) 0 x.toNat) := hI'
      obtain ⟨i1, i3, i2⟩ := hI'
      show RS _ _ _ _ [some (.inr (.inr 232)), some (.inl f), some (.inl r), some (.inl (S 233 (1 + f))), some (.inl (r - 3)), some (.inl s), some (.inl x), none] [] S
      have b29 := bdc_236_0 hB f
      refine r_iload (pc' := 40) rfl rfl rfl ?_
      refine r_const (pc' := 42) rfl rfl ?_
      by_cases h30 : x < 8
      · refine r_icmp_ge0 (pc' := 45) rfl rfl (by omega) (by omega) ?_
        refine r_iload (pc' := 46) rfl rfl rfl ?_
        refine r_const (pc' := 47) rfl rfl ?_
        by_cases h31 : (S 233 (1 + f)) = 3
        · refine r_icmp_ne0 (pc' := 50) rfl rfl (by omega) (by omega) ?_
          refine r_iload (pc' := 52) rfl rfl rfl ?_
          refine r_goto (pc' := 60) rfl rfl ?_
          refine r_istore (pc' := 62) (ls' := [some (.inr (.inr 232)), some (.inl f), some (.inl r), some (.inl (S 233 (1 + f))), some (.inl (r - 3)), some (.inl s), some (.inl x), some (.inl x)]) rfl rfl rfl rfl ?_
          refine r_iload (pc' := 64) rfl rfl rfl ?_
          refine r_aload (pc' := 65) rfl rfl rfl ?_
          refine r_getr (pc' := 68) (v := 236) rfl rfl rfl rfl rfl ?_
          refine r_const (pc' := 69) rfl rfl ?_
          refine r_iload (pc' := 70) rfl rfl rfl ?_
          refine r_iadd (pc' := 71) rfl rfl ?_
          refine r_aldv (pc' := 72) (v := (S 236 (0 + f))) 12 rfl rfl rfl (by omega) rfl ?_
          refine r_iload (pc' := 74) rfl rfl rfl ?_
          by_cases h32 : tb (S 236 (0 + f)) x
          · skip
            refine q_callE (pc' := 77) (w := some (.inl 1)) (S2 := S) (st' := [.inl 1, .inl s]) rfl rfl rfl (bi_pos h32 (c_X11_has (s := (S 236 (0 + f))) (q := x) (S := S)  (show -2147483648 ≤ (S 236 (0 + f)) ∧ (S 236 (0 + f)) < 2147483648 from by omega) (show 0 ≤ x ∧ x < 32 from by omega))) (by decide) rfl rfl (Nat.le_of_ble_eq_true rfl) (fun q => absurd rfl q) rfl rfl ?_
            refine r_if_eq0 (pc' := 80) rfl rfl (by decide) (by decide) ?_
            refine r_iload (pc' := 82) rfl rfl rfl ?_
            refine q_callE (pc' := 85) (w := some (.inl (pop s))) (S2 := S) (st' := [.inl (pop s), .inl s]) rfl rfl rfl (c_X11_bits (a := s) (S := S)  (show 0 ≤ s ∧ s < 512 from by omega)) (by decide) rfl rfl (Nat.le_of_ble_eq_true rfl) (fun q => absurd rfl q) rfl rfl ?_
            have b33 : 0 ≤ (pop s) ∧ (pop s) ≤ 9 := pop_r _
            refine r_iload (pc' := 87) rfl rfl rfl ?_
            by_cases h34 : (pop s) < (r - 3)
            · refine r_icmp_ge0 (pc' := 90) rfl rfl (by omega) (by omega) ?_
              refine r_const (pc' := 91) rfl rfl ?_
              refine r_iload (pc' := 93) rfl rfl rfl ?_
              refine r_ishl (pc' := 94) rfl rfl ?_
              have b35 := mx_shl_r 1 x
              have e36 := shl_u (k := x) 8 (by omega) (by omega)
              refine r_goto (pc' := 98) rfl rfl ?_
              refine r_ior (pc' := 99) rfl rfl ?_
              have b37 := mx_or_r s (mx_shl 1 x)
              have e38 := or_u (a := s) (b := mx_shl 1 x) 8 (by omega) (by omega) (by omega) (by omega) (by omega)
              refine r_istore (pc' := 101) (ls' := [some (.inr (.inr 232)), some (.inl f), some (.inl r), some (.inl (S 233 (1 + f))), some (.inl (r - 3)), some (.inl (mx_or s (mx_shl 1 x))), some (.inl x), some (.inl x)]) rfl rfl rfl rfl ?_
              refine r_iinc (pc' := 104) (ls' := [some (.inr (.inr 232)), some (.inl f), some (.inl r), some (.inl (S 233 (1 + f))), some (.inl (r - 3)), some (.inl (mx_or s (mx_shl 1 x))), some (.inl (x + 1)), some (.inl x)]) rfl rfl rfl rfl rfl ?_
              refine r_goto (pc' := 38) rfl rfl ?_
              refine r_forget [true, true, true, true, true, true, true, false] rfl ?_
              exact ih38 ((mx_or s (mx_shl 1 x)), (x + 1)) (show (0 ≤ (x + 1) ∧ (x + 1) ≤ 8) ∧ (0 ≤ (mx_or s (mx_shl 1 x)) ∧ (mx_or s (mx_shl 1 x)) < 256) ∧ ((mx_or s (mx_shl 1 x)) = fo (rns (rpl (S 233 (1 + f))) (r - 3) (S 236 (0 + f))) 0 (x + 1).toNat) from by exact ⟨by omega, by omega, by rw [fo_s (by omega), ← i2]; unfold rns; rw [show rpl (S 233 (1 + f)) x = x from if_pos h31]; exact (if_pos ⟨h32, h34⟩).symm⟩) (show (8 - (x + 1)).toNat < (8 - x).toNat from by omega)
            · refine r_icmp_ge1 (pc' := 97) rfl rfl (by omega) (by omega) ?_
              refine r_const (pc' := 98) rfl rfl ?_
              refine r_ior (pc' := 99) rfl rfl ?_
              have b39 := mx_or_r s 0
              have e40 := mx_or0 (a := s) (by omega)
              refine r_istore (pc' := 101) (ls' := [some (.inr (.inr 232)), some (.inl f), some (.inl r), some (.inl (S 233 (1 + f))), some (.inl (r - 3)), some (.inl (mx_or s 0)), some (.inl x), some (.inl x)]) rfl rfl rfl rfl ?_
              refine r_iinc (pc' := 104) (ls' := [some (.inr (.inr 232)), some (.inl f), some (.inl r), some (.inl (S 233 (1 + f))), some (.inl (r - 3)), some (.inl (mx_or s 0)), some (.inl (x + 1)), some (.inl x)]) rfl rfl rfl rfl rfl ?_
              refine r_goto (pc' := 38) rfl rfl ?_
              refine r_forget [true, true, true, true, true, true, true, false] rfl ?_
              exact ih38 ((mx_or s 0), (x + 1)) (show (0 ≤ (x + 1) ∧ (x + 1) ≤ 8) ∧ (0 ≤ (mx_or s 0) ∧ (mx_or s 0) < 256) ∧ ((mx_or s 0) = fo (rns (rpl (S 233 (1 + f))) (r - 3) (S 236 (0 + f))) 0 (x + 1).toNat) from by exact ⟨by omega, by omega, by rw [fo_s (by omega), ← i2]; unfold rns; rw [show rpl (S 233 (1 + f)) x = x from if_pos h31]; rw [mx_or0 (by omega)]; exact (if_neg (fun q => absurd q.2 h34)).symm⟩) (show (8 - (x + 1)).toNat < (8 - x).toNat from by omega)
          · skip
            refine q_callE (pc' := 77) (w := some (.inl 0)) (S2 := S) (st' := [.inl 0, .inl s]) rfl rfl rfl (bi_neg h32 (c_X11_has (s := (S 236 (0 + f))) (q := x) (S := S)  (show -2147483648 ≤ (S 236 (0 + f)) ∧ (S 236 (0 + f)) < 2147483648 from by omega) (show 0 ≤ x ∧ x < 32 from by omega))) (by decide) rfl rfl (Nat.le_of_ble_eq_true rfl) (fun q => absurd rfl q) rfl rfl ?_
            refine r_if_eq1 (pc' := 97) rfl rfl (by decide) (by decide) ?_
            refine r_const (pc' := 98) rfl rfl ?_
            refine r_ior (pc' := 99) rfl rfl ?_
            have b41 := mx_or_r s 0
            have e42 := mx_or0 (a := s) (by omega)
            refine r_istore (pc' := 101) (ls' := [some (.inr (.inr 232)), some (.inl f), some (.inl r), some (.inl (S 233 (1 + f))), some (.inl (r - 3)), some (.inl (mx_or s 0)), some (.inl x), some (.inl x)]) rfl rfl rfl rfl ?_
            refine r_iinc (pc' := 104) (ls' := [some (.inr (.inr 232)), some (.inl f), some (.inl r), some (.inl (S 233 (1 + f))), some (.inl (r - 3)), some (.inl (mx_or s 0)), some (.inl (x + 1)), some (.inl x)]) rfl rfl rfl rfl rfl ?_
            refine r_goto (pc' := 38) rfl rfl ?_
            refine r_forget [true, true, true, true, true, true, true, false] rfl ?_
            exact ih38 ((mx_or s 0), (x + 1)) (show (0 ≤ (x + 1) ∧ (x + 1) ≤ 8) ∧ (0 ≤ (mx_or s 0) ∧ (mx_or s 0) < 256) ∧ ((mx_or s 0) = fo (rns (rpl (S 233 (1 + f))) (r - 3) (S 236 (0 + f))) 0 (x + 1).toNat) from by exact ⟨by omega, by omega, by rw [fo_s (by omega), ← i2]; unfold rns; rw [show rpl (S 233 (1 + f)) x = x from if_pos h31]; rw [mx_or0 (by omega)]; exact (if_neg (fun q => absurd q.1 h32)).symm⟩) (show (8 - (x + 1)).toNat < (8 - x).toNat from by omega)
        · refine r_icmp_ne1 (pc' := 55) rfl rfl (by omega) (by omega) ?_
          refine r_const (pc' := 57) rfl rfl ?_
          refine r_iload (pc' := 59) rfl rfl rfl ?_
          refine r_isub (pc' := 60) rfl rfl ?_
          refine r_istore (pc' := 62) (ls' := [some (.inr (.inr 232)), some (.inl f), some (.inl r), some (.inl (S 233 (1 + f))), some (.inl (r - 3)), some (.inl s), some (.inl x), some (.inl (7 - x))]) rfl rfl rfl rfl ?_
          refine r_iload (pc' := 64) rfl rfl rfl ?_
          refine r_aload (pc' := 65) rfl rfl rfl ?_
          refine r_getr (pc' := 68) (v := 236) rfl rfl rfl rfl rfl ?_
          refine r_const (pc' := 69) rfl rfl ?_
          refine r_iload (pc' := 70) rfl rfl rfl ?_
          refine r_iadd (pc' := 71) rfl rfl ?_
          refine r_aldv (pc' := 72) (v := (S 236 (0 + f))) 12 rfl rfl rfl (by omega) rfl ?_
          refine r_iload (pc' := 74) rfl rfl rfl ?_
          by_cases h43 : tb (S 236 (0 + f)) (7 - x)
          · skip
            refine q_callE (pc' := 77) (w := some (.inl 1)) (S2 := S) (st' := [.inl 1, .inl s]) rfl rfl rfl (bi_pos h43 (c_X11_has (s := (S 236 (0 + f))) (q := (7 - x)) (S := S)  (show -2147483648 ≤ (S 236 (0 + f)) ∧ (S 236 (0 + f)) < 2147483648 from by omega) (show 0 ≤ (7 - x) ∧ (7 - x) < 32 from by omega))) (by decide) rfl rfl (Nat.le_of_ble_eq_true rfl) (fun q => absurd rfl q) rfl rfl ?_
            refine r_if_eq0 (pc' := 80) rfl rfl (by decide) (by decide) ?_
            refine r_iload (pc' := 82) rfl rfl rfl ?_
            refine q_callE (pc' := 85) (w := some (.inl (pop s))) (S2 := S) (st' := [.inl (pop s), .inl s]) rfl rfl rfl (c_X11_bits (a := s) (S := S)  (show 0 ≤ s ∧ s < 512 from by omega)) (by decide) rfl rfl (Nat.le_of_ble_eq_true rfl) (fun q => absurd rfl q) rfl rfl ?_
            have b44 : 0 ≤ (pop s) ∧ (pop s) ≤ 9 := pop_r _
            refine r_iload (pc' := 87) rfl rfl rfl ?_
            by_cases h45 : (pop s) < (r - 3)
            · refine r_icmp_ge0 (pc' := 90) rfl rfl (by omega) (by omega) ?_
              refine r_const (pc' := 91) rfl rfl ?_
              refine r_iload (pc' := 93) rfl rfl rfl ?_
              refine r_ishl (pc' := 94) rfl rfl ?_
              have b46 := mx_shl_r 1 (7 - x)
              have e47 := shl_u (k := (7 - x)) 8 (by omega) (by omega)
              refine r_goto (pc' := 98) rfl rfl ?_
              refine r_ior (pc' := 99) rfl rfl ?_
              have b48 := mx_or_r s (mx_shl 1 (7 - x))
              have e49 := or_u (a := s) (b := mx_shl 1 (7 - x)) 8 (by omega) (by omega) (by omega) (by omega) (by omega)
              refine r_istore (pc' := 101) (ls' := [some (.inr (.inr 232)), some (.inl f), some (.inl r), some (.inl (S 233 (1 + f))), some (.inl (r - 3)), some (.inl (mx_or s (mx_shl 1 (7 - x)))), some (.inl x), some (.inl (7 - x))]) rfl rfl rfl rfl ?_
              refine r_iinc (pc' := 104) (ls' := [some (.inr (.inr 232)), some (.inl f), some (.inl r), some (.inl (S 233 (1 + f))), some (.inl (r - 3)), some (.inl (mx_or s (mx_shl 1 (7 - x)))), some (.inl (x + 1)), some (.inl (7 - x))]) rfl rfl rfl rfl rfl ?_
              refine r_goto (pc' := 38) rfl rfl ?_
              refine r_forget [true, true, true, true, true, true, true, false] rfl ?_
              exact ih38 ((mx_or s (mx_shl 1 (7 - x))), (x + 1)) (show (0 ≤ (x + 1) ∧ (x + 1) ≤ 8) ∧ (0 ≤ (mx_or s (mx_shl 1 (7 - x))) ∧ (mx_or s (mx_shl 1 (7 - x))) < 256) ∧ ((mx_or s (mx_shl 1 (7 - x))) = fo (rns (rpl (S 233 (1 + f))) (r - 3) (S 236 (0 + f))) 0 (x + 1).toNat) from by exact ⟨by omega, by omega, by rw [fo_s (by omega), ← i2]; unfold rns; rw [show rpl (S 233 (1 + f)) x = 7 - x from if_neg h31]; exact (if_pos ⟨h43, h45⟩).symm⟩) (show (8 - (x + 1)).toNat < (8 - x).toNat from by omega)
            · refine r_icmp_ge1 (pc' := 97) rfl rfl (by omega) (by omega) ?_
              refine r_const (pc' := 98) rfl rfl ?_
              refine r_ior (pc' := 99) rfl rfl ?_
              have b50 := mx_or_r s 0
              have e51 := mx_or0 (a := s) (by omega)
              refine r_istore (pc' := 101) (ls' := [some (.inr (.inr 232)), some (.inl f), some (.inl r), some (.inl (S 233 (1 + f))), some (.inl (r - 3)), some (.inl (mx_or s 0)), some (.inl x), some (.inl (7 - x))]) rfl rfl rfl rfl ?_
              refine r_iinc (pc' := 104) (ls' := [some (.inr (.inr 232)), some (.inl f), some (.inl r), some (.inl (S 233 (1 + f))), some (.inl (r - 3)), some (.inl (mx_or s 0)), some (.inl (x + 1)), some (.inl (7 - x))]) rfl rfl rfl rfl rfl ?_
              refine r_goto (pc' := 38) rfl rfl ?_
              refine r_forget [true, true, true, true, true, true, true, false] rfl ?_
              exact ih38 ((mx_or s 0), (x + 1)) (show (0 ≤ (x + 1) ∧ (x + 1) ≤ 8) ∧ (0 ≤ (mx_or s 0) ∧ (mx_or s 0) < 256) ∧ ((mx_or s 0) = fo (rns (rpl (S 233 (1 + f))) (r - 3) (S 236 (0 + f))) 0 (x + 1).toNat) from by exact ⟨by omega, by omega, by rw [fo_s (by omega), ← i2]; unfold rns; rw [show rpl (S 233 (1 + f)) x = 7 - x from if_neg h31]; rw [mx_or0 (by omega)]; exact (if_neg (fun q => absurd q.2 h45)).symm⟩) (show (8 - (x + 1)).toNat < (8 - x).toNat from by omega)
          · skip
            refine q_callE (pc' := 77) (w := some (.inl 0)) (S2 := S) (st' := [.inl 0, .inl s]) rfl rfl rfl (bi_neg h43 (c_X11_has (s := (S 236 (0 + f))) (q := (7 - x)) (S := S)  (show -2147483648 ≤ (S 236 (0 + f)) ∧ (S 236 (0 + f)) < 2147483648 from by omega) (show 0 ≤ (7 - x) ∧ (7 - x) < 32 from by omega))) (by decide) rfl rfl (Nat.le_of_ble_eq_true rfl) (fun q => absurd rfl q) rfl rfl ?_
            refine r_if_eq1 (pc' := 97) rfl rfl (by decide) (by decide) ?_
            refine r_const (pc' := 98) rfl rfl ?_
            refine r_ior (pc' := 99) rfl rfl ?_
            have b52 := mx_or_r s 0
            have e53 := mx_or0 (a := s) (by omega)
            refine r_istore (pc' := 101) (ls' := [some (.inr (.inr 232)), some (.inl f), some (.inl r), some (.inl (S 233 (1 + f))), some (.inl (r - 3)), some (.inl (mx_or s 0)), some (.inl x), some (.inl (7 - x))]) rfl rfl rfl rfl ?_
            refine r_iinc (pc' := 104) (ls' := [some (.inr (.inr 232)), some (.inl f), some (.inl r), some (.inl (S 233 (1 + f))), some (.inl (r - 3)), some (.inl (mx_or s 0)), some (.inl (x + 1)), some (.inl (7 - x))]) rfl rfl rfl rfl rfl ?_
            refine r_goto (pc' := 38) rfl rfl ?_
            refine r_forget [true, true, true, true, true, true, true, false] rfl ?_
            exact ih38 ((mx_or s 0), (x + 1)) (show (0 ≤ (x + 1) ∧ (x + 1) ≤ 8) ∧ (0 ≤ (mx_or s 0) ∧ (mx_or s 0) < 256) ∧ ((mx_or s 0) = fo (rns (rpl (S 233 (1 + f))) (r - 3) (S 236 (0 + f))) 0 (x + 1).toNat) from by exact ⟨by omega, by omega, by rw [fo_s (by omega), ← i2]; unfold rns; rw [show rpl (S 233 (1 + f)) x = 7 - x from if_neg h31]; rw [mx_or0 (by omega)]; exact (if_neg (fun q => absurd q.1 h43)).symm⟩) (show (8 - (x + 1)).toNat < (8 - x).toNat from by omega)
      · refine r_icmp_ge1 (pc' := 107) rfl rfl (by omega) (by omega) ?_
        refine r_iload (pc' := 109) rfl rfl rfl ?_
        refine q_iret rfl rfl rfl ?_
        obtain rfl : x = 8 := by omega
        exact ⟨by rw [i2]; unfold rnm; rw [if_neg h2, if_pos h28]; rfl, rfl⟩
    · refine r_icmp_ne1 (pc' := 29) rfl rfl (by omega) (by omega) ?_
      refine r_iload (pc' := 30) rfl rfl rfl ?_
      refine r_istore (pc' := 32) (ls' := [some (.inr (.inr 232)), some (.inl f), some (.inl r), some (.inl (S 233 (1 + f))), some (.inl r), none, none, none]) rfl rfl rfl rfl ?_
      refine r_const (pc' := 33) rfl rfl ?_
      refine r_istore (pc' := 35) (ls' := [some (.inr (.inr 232)), some (.inl f), some (.inl r), some (.inl (S 233 (1 + f))), some (.inl r), some (.inl 0), none, none]) rfl rfl rfl rfl ?_
      refine r_const (pc' := 36) rfl rfl ?_
      refine r_istore (pc' := 38) (ls' := [some (.inr (.inr 232)), some (.inl f), some (.inl r), some (.inl (S 233 (1 + f))), some (.inl r), some (.inl 0), some (.inl 0), none]) rfl rfl rfl rfl ?_
      refine r_while (α := Int × Int) (fun z' => [some (.inr (.inr 232)), some (.inl f), some (.inl r), some (.inl (S 233 (1 + f))), some (.inl r), some (.inl z'.1), some (.inl z'.2), none]) (fun z' => S) (fun z' => (0 ≤ z'.2 ∧ z'.2 ≤ 8) ∧ (0 ≤ z'.1 ∧ z'.1 < 256) ∧ (z'.1 = fo (rns (rpl (S 233 (1 + f))) r (S 236 (0 + f))) 0 (z'.2).toNat)) (fun z' => (8 - z'.2).toNat) ?_ (0, 0) (show (0 ≤ (0 : Int) ∧ (0 : Int) ≤ 8) ∧ (0 ≤ (0 : Int) ∧ (0 : Int) < 256) ∧ ((0 : Int) = fo (rns (rpl (S 233 (1 + f))) r (S 236 (0 + f))) 0 (0 : Int).toNat) from by exact ⟨by omega, by omega, rfl⟩)
      rintro ⟨s, x⟩ hI' ih38
      have hI' : (0 ≤ x ∧ x ≤ 8) ∧ (0 ≤ s ∧ s < 256) ∧ (s = fo (rns (rpl (S 233 (1 + f))) r (S 236 (0 + f))) 0 x.toNat) := hI'
      obtain ⟨i1, i3, i2⟩ := hI'
      show RS _ _ _ _ [some (.inr (.inr 232)), some (.inl f), some (.inl r), some (.inl (S 233 (1 + f))), some (.inl r), some (.inl s), some (.inl x), none] [] S
      have b54 := bdc_236_0 hB f
      refine r_iload (pc' := 40) rfl rfl rfl ?_
      refine r_const (pc' := 42) rfl rfl ?_
      by_cases h55 : x < 8
      · refine r_icmp_ge0 (pc' := 45) rfl rfl (by omega) (by omega) ?_
        refine r_iload (pc' := 46) rfl rfl rfl ?_
        refine r_const (pc' := 47) rfl rfl ?_
        by_cases h56 : (S 233 (1 + f)) = 3
        · refine r_icmp_ne0 (pc' := 50) rfl rfl (by omega) (by omega) ?_
          refine r_iload (pc' := 52) rfl rfl rfl ?_
          refine r_goto (pc' := 60) rfl rfl ?_
          refine r_istore (pc' := 62) (ls' := [some (.inr (.inr 232)), some (.inl f), some (.inl r), some (.inl (S 233 (1 + f))), some (.inl r), some (.inl s), some (.inl x), some (.inl x)]) rfl rfl rfl rfl ?_
          refine r_iload (pc' := 64) rfl rfl rfl ?_
          refine r_aload (pc' := 65) rfl rfl rfl ?_
          refine r_getr (pc' := 68) (v := 236) rfl rfl rfl rfl rfl ?_
          refine r_const (pc' := 69) rfl rfl ?_
          refine r_iload (pc' := 70) rfl rfl rfl ?_
          refine r_iadd (pc' := 71) rfl rfl ?_
          refine r_aldv (pc' := 72) (v := (S 236 (0 + f))) 12 rfl rfl rfl (by omega) rfl ?_
          refine r_iload (pc' := 74) rfl rfl rfl ?_
          by_cases h57 : tb (S 236 (0 + f)) x
          · skip
            refine q_callE (pc' := 77) (w := some (.inl 1)) (S2 := S) (st' := [.inl 1, .inl s]) rfl rfl rfl (bi_pos h57 (c_X11_has (s := (S 236 (0 + f))) (q := x) (S := S)  (show -2147483648 ≤ (S 236 (0 + f)) ∧ (S 236 (0 + f)) < 2147483648 from by omega) (show 0 ≤ x ∧ x < 32 from by omega))) (by decide) rfl rfl (Nat.le_of_ble_eq_true rfl) (fun q => absurd rfl q) rfl rfl ?_
            refine r_if_eq0 (pc' := 80) rfl rfl (by decide) (by decide) ?_
            refine r_iload (pc' := 82) rfl rfl rfl ?_
            refine q_callE (pc' := 85) (w := some (.inl (pop s))) (S2 := S) (st' := [.inl (pop s), .inl s]) rfl rfl rfl (c_X11_bits (a := s) (S := S)  (show 0 ≤ s ∧ s < 512 from by omega)) (by decide) rfl rfl (Nat.le_of_ble_eq_true rfl) (fun q => absurd rfl q) rfl rfl ?_
            have b58 : 0 ≤ (pop s) ∧ (pop s) ≤ 9 := pop_r _
            refine r_iload (pc' := 87) rfl rfl rfl ?_
            by_cases h59 : (pop s) < r
            · refine r_icmp_ge0 (pc' := 90) rfl rfl (by omega) (by omega) ?_
              refine r_const (pc' := 91) rfl rfl ?_
              refine r_iload (pc' := 93) rfl rfl rfl ?_
              refine r_ishl (pc' := 94) rfl rfl ?_
              have b60 := mx_shl_r 1 x
              have e61 := shl_u (k := x) 8 (by omega) (by omega)
              refine r_goto (pc' := 98) rfl rfl ?_
              refine r_ior (pc' := 99) rfl rfl ?_
              have b62 := mx_or_r s (mx_shl 1 x)
              have e63 := or_u (a := s) (b := mx_shl 1 x) 8 (by omega) (by omega) (by omega) (by omega) (by omega)
              refine r_istore (pc' := 101) (ls' := [some (.inr (.inr 232)), some (.inl f), some (.inl r), some (.inl (S 233 (1 + f))), some (.inl r), some (.inl (mx_or s (mx_shl 1 x))), some (.inl x), some (.inl x)]) rfl rfl rfl rfl ?_
              refine r_iinc (pc' := 104) (ls' := [some (.inr (.inr 232)), some (.inl f), some (.inl r), some (.inl (S 233 (1 + f))), some (.inl r), some (.inl (mx_or s (mx_shl 1 x))), some (.inl (x + 1)), some (.inl x)]) rfl rfl rfl rfl rfl ?_
              refine r_goto (pc' := 38) rfl rfl ?_
              refine r_forget [true, true, true, true, true, true, true, false] rfl ?_
              exact ih38 ((mx_or s (mx_shl 1 x)), (x + 1)) (show (0 ≤ (x + 1) ∧ (x + 1) ≤ 8) ∧ (0 ≤ (mx_or s (mx_shl 1 x)) ∧ (mx_or s (mx_shl 1 x)) < 256) ∧ ((mx_or s (mx_shl 1 x)) = fo (rns (rpl (S 233 (1 + f))) r (S 236 (0 + f))) 0 (x + 1).toNat) from by exact ⟨by omega, by omega, by rw [fo_s (by omega), ← i2]; unfold rns; rw [show rpl (S 233 (1 + f)) x = x from if_pos h56]; exact (if_pos ⟨h57, h59⟩).symm⟩) (show (8 - (x + 1)).toNat < (8 - x).toNat from by omega)
            · refine r_icmp_ge1 (pc' := 97) rfl rfl (by omega) (by omega) ?_
              refine r_const (pc' := 98) rfl rfl ?_
              refine r_ior (pc' := 99) rfl rfl ?_
              have b64 := mx_or_r s 0
              have e65 := mx_or0 (a := s) (by omega)
              refine r_istore (pc' := 101) (ls' := [some (.inr (.inr 232)), some (.inl f), some (.inl r), some (.inl (S 233 (1 + f))), some (.inl r), some (.inl (mx_or s 0)), some (.inl x), some (.inl x)]) rfl rfl rfl rfl ?_
              refine r_iinc (pc' := 104) (ls' := [some (.inr (.inr 232)), some (.inl f), some (.inl r), some (.inl (S 233 (1 + f))), some (.inl r), some (.inl (mx_or s 0)), some (.inl (x + 1)), some (.inl x)]) rfl rfl rfl rfl rfl ?_
              refine r_goto (pc' := 38) rfl rfl ?_
              refine r_forget [true, true, true, true, true, true, true, false] rfl ?_
              exact ih38 ((mx_or s 0), (x + 1)) (show (0 ≤ (x + 1) ∧ (x + 1) ≤ 8) ∧ (0 ≤ (mx_or s 0) ∧ (mx_or s 0) < 256) ∧ ((mx_or s 0) = fo (rns (rpl (S 233 (1 + f))) r (S 236 (0 + f))) 0 (x + 1).toNat) from by exact ⟨by omega, by omega, by rw [fo_s (by omega), ← i2]; unfold rns; rw [show rpl (S 233 (1 + f)) x = x from if_pos h56]; rw [mx_or0 (by omega)]; exact (if_neg (fun q => absurd q.2 h59)).symm⟩) (show (8 - (x + 1)).toNat < (8 - x).toNat from by omega)
          · skip
            refine q_callE (pc' := 77) (w := some (.inl 0)) (S2 := S) (st' := [.inl 0, .inl s]) rfl rfl rfl (bi_neg h57 (c_X11_has (s := (S 236 (0 + f))) (q := x) (S := S)  (show -2147483648 ≤ (S 236 (0 + f)) ∧ (S 236 (0 + f)) < 2147483648 from by omega) (show 0 ≤ x ∧ x < 32 from by omega))) (by decide) rfl rfl (Nat.le_of_ble_eq_true rfl) (fun q => absurd rfl q) rfl rfl ?_
            refine r_if_eq1 (pc' := 97) rfl rfl (by decide) (by decide) ?_
            refine r_const (pc' := 98) rfl rfl ?_
            refine r_ior (pc' := 99) rfl rfl ?_
            have b66 := mx_or_r s 0
            have e67 := mx_or0 (a := s) (by omega)
            refine r_istore (pc' := 101) (ls' := [some (.inr (.inr 232)), some (.inl f), some (.inl r), some (.inl (S 233 (1 + f))), some (.inl r), some (.inl (mx_or s 0)), some (.inl x), some (.inl x)]) rfl rfl rfl rfl ?_
            refine r_iinc (pc' := 104) (ls' := [some (.inr (.inr 232)), some (.inl f), some (.inl r), some (.inl (S 233 (1 + f))), some (.inl r), some (.inl (mx_or s 0)), some (.inl (x + 1)), some (.inl x)]) rfl rfl rfl rfl rfl ?_
            refine r_goto (pc' := 38) rfl rfl ?_
            refine r_forget [true, true, true, true, true, true, true, false] rfl ?_
            exact ih38 ((mx_or s 0), (x + 1)) (show (0 ≤ (x + 1) ∧ (x + 1) ≤ 8) ∧ (0 ≤ (mx_or s 0) ∧ (mx_or s 0) < 256) ∧ ((mx_or s 0) = fo (rns (rpl (S 233 (1 + f))) r (S 236 (0 + f))) 0 (x + 1).toNat) from by exact ⟨by omega, by omega, by rw [fo_s (by omega), ← i2]; unfold rns; rw [show rpl (S 233 (1 + f)) x = x from if_pos h56]; rw [mx_or0 (by omega)]; exact (if_neg (fun q => absurd q.1 h57)).symm⟩) (show (8 - (x + 1)).toNat < (8 - x).toNat from by omega)
        · refine r_icmp_ne1 (pc' := 55) rfl rfl (by omega) (by omega) ?_
          refine r_const (pc' := 57) rfl rfl ?_
          refine r_iload (pc' := 59) rfl rfl rfl ?_
          refine r_isub (pc' := 60) rfl rfl ?_
          refine r_istore (pc' := 62) (ls' := [some (.inr (.inr 232)), some (.inl f), some (.inl r), some (.inl (S 233 (1 + f))), some (.inl r), some (.inl s), some (.inl x), some (.inl (7 - x))]) rfl rfl rfl rfl ?_
          refine r_iload (pc' := 64) rfl rfl rfl ?_
          refine r_aload (pc' := 65) rfl rfl rfl ?_
          refine r_getr (pc' := 68) (v := 236) rfl rfl rfl rfl rfl ?_
          refine r_const (pc' := 69) rfl rfl ?_
          refine r_iload (pc' := 70) rfl rfl rfl ?_
          refine r_iadd (pc' := 71) rfl rfl ?_
          refine r_aldv (pc' := 72) (v := (S 236 (0 + f))) 12 rfl rfl rfl (by omega) rfl ?_
          refine r_iload (pc' := 74) rfl rfl rfl ?_
          by_cases h68 : tb (S 236 (0 + f)) (7 - x)
          · skip
            refine q_callE (pc' := 77) (w := some (.inl 1)) (S2 := S) (st' := [.inl 1, .inl s]) rfl rfl rfl (bi_pos h68 (c_X11_has (s := (S 236 (0 + f))) (q := (7 - x)) (S := S)  (show -2147483648 ≤ (S 236 (0 + f)) ∧ (S 236 (0 + f)) < 2147483648 from by omega) (show 0 ≤ (7 - x) ∧ (7 - x) < 32 from by omega))) (by decide) rfl rfl (Nat.le_of_ble_eq_true rfl) (fun q => absurd rfl q) rfl rfl ?_
            refine r_if_eq0 (pc' := 80) rfl rfl (by decide) (by decide) ?_
            refine r_iload (pc' := 82) rfl rfl rfl ?_
            refine q_callE (pc' := 85) (w := some (.inl (pop s))) (S2 := S) (st' := [.inl (pop s), .inl s]) rfl rfl rfl (c_X11_bits (a := s) (S := S)  (show 0 ≤ s ∧ s < 512 from by omega)) (by decide) rfl rfl (Nat.le_of_ble_eq_true rfl) (fun q => absurd rfl q) rfl rfl ?_
            have b69 : 0 ≤ (pop s) ∧ (pop s) ≤ 9 := pop_r _
            refine r_iload (pc' := 87) rfl rfl rfl ?_
            by_cases h70 : (pop s) < r
            · refine r_icmp_ge0 (pc' := 90) rfl rfl (by omega) (by omega) ?_
              refine r_const (pc' := 91) rfl rfl ?_
              refine r_iload (pc' := 93) rfl rfl rfl ?_
              refine r_ishl (pc' := 94) rfl rfl ?_
              have b71 := mx_shl_r 1 (7 - x)
              have e72 := shl_u (k := (7 - x)) 8 (by omega) (by omega)
              refine r_goto (pc' := 98) rfl rfl ?_
              refine r_ior (pc' := 99) rfl rfl ?_
              have b73 := mx_or_r s (mx_shl 1 (7 - x))
              have e74 := or_u (a := s) (b := mx_shl 1 (7 - x)) 8 (by omega) (by omega) (by omega) (by omega) (by omega)
              refine r_istore (pc' := 101) (ls' := [some (.inr (.inr 232)), some (.inl f), some (.inl r), some (.inl (S 233 (1 + f))), some (.inl r), some (.inl (mx_or s (mx_shl 1 (7 - x)))), some (.inl x), some (.inl (7 - x))]) rfl rfl rfl rfl ?_
              refine r_iinc (pc' := 104) (ls' := [some (.inr (.inr 232)), some (.inl f), some (.inl r), some (.inl (S 233 (1 + f))), some (.inl r), some (.inl (mx_or s (mx_shl 1 (7 - x)))), some (.inl (x + 1)), some (.inl (7 - x))]) rfl rfl rfl rfl rfl ?_
              refine r_goto (pc' := 38) rfl rfl ?_
              refine r_forget [true, true, true, true, true, true, true, false] rfl ?_
              exact ih38 ((mx_or s (mx_shl 1 (7 - x))), (x + 1)) (show (0 ≤ (x + 1) ∧ (x + 1) ≤ 8) ∧ (0 ≤ (mx_or s (mx_shl 1 (7 - x))) ∧ (mx_or s (mx_shl 1 (7 - x))) < 256) ∧ ((mx_or s (mx_shl 1 (7 - x))) = fo (rns (rpl (S 233 (1 + f))) r (S 236 (0 + f))) 0 (x + 1).toNat) from by exact ⟨by omega, by omega, by rw [fo_s (by omega), ← i2]; unfold rns; rw [show rpl (S 233 (1 + f)) x = 7 - x from if_neg h56]; exact (if_pos ⟨h68, h70⟩).symm⟩) (show (8 - (x + 1)).toNat < (8 - x).toNat from by omega)
            · refine r_icmp_ge1 (pc' := 97) rfl rfl (by omega) (by omega) ?_
              refine r_const (pc' := 98) rfl rfl ?_
              refine r_ior (pc' := 99) rfl rfl ?_
              have b75 := mx_or_r s 0
              have e76 := mx_or0 (a := s) (by omega)
              refine r_istore (pc' := 101) (ls' := [some (.inr (.inr 232)), some (.inl f), some (.inl r), some (.inl (S 233 (1 + f))), some (.inl r), some (.inl (mx_or s 0)), some (.inl x), some (.inl (7 - x))]) rfl rfl rfl rfl ?_
              refine r_iinc (pc' := 104) (ls' := [some (.inr (.inr 232)), some (.inl f), some (.inl r), some (.inl (S 233 (1 + f))), some (.inl r), some (.inl (mx_or s 0)), some (.inl (x + 1)), some (.inl (7 - x))]) rfl rfl rfl rfl rfl ?_
              refine r_goto (pc' := 38) rfl rfl ?_
              refine r_forget [true, true, true, true, true, true, true, false] rfl ?_
              exact ih38 ((mx_or s 0), (x + 1)) (show (0 ≤ (x + 1) ∧ (x + 1) ≤ 8) ∧ (0 ≤ (mx_or s 0) ∧ (mx_or s 0) < 256) ∧ ((mx_or s 0) = fo (rns (rpl (S 233 (1 + f))) r (S 236 (0 + f))) 0 (x + 1).toNat) from by exact ⟨by omega, by omega, by rw [fo_s (by omega), ← i2]; unfold rns; rw [show rpl (S 233 (1 + f)) x = 7 - x from if_neg h56]; rw [mx_or0 (by omega)]; exact (if_neg (fun q => absurd q.2 h70)).symm⟩) (show (8 - (x + 1)).toNat < (8 - x).toNat from by omega)
          · skip
            refine q_callE (pc' := 77) (w := some (.inl 0)) (S2 := S) (st' := [.inl 0, .inl s]) rfl rfl rfl (bi_neg h68 (c_X11_has (s := (S 236 (0 + f))) (q := (7 - x)) (S := S)  (show -2147483648 ≤ (S 236 (0 + f)) ∧ (S 236 (0 + f)) < 2147483648 from by omega) (show 0 ≤ (7 - x) ∧ (7 - x) < 32 from by omega))) (by decide) rfl rfl (Nat.le_of_ble_eq_true rfl) (fun q => absurd rfl q) rfl rfl ?_
            refine r_if_eq1 (pc' := 97) rfl rfl (by decide) (by decide) ?_
            refine r_const (pc' := 98) rfl rfl ?_
            refine r_ior (pc' := 99) rfl rfl ?_
            have b77 := mx_or_r s 0
            have e78 := mx_or0 (a := s) (by omega)
            refine r_istore (pc' := 101) (ls' := [some (.inr (.inr 232)), some (.inl f), some (.inl r), some (.inl (S 233 (1 + f))), some (.inl r), some (.inl (mx_or s 0)), some (.inl x), some (.inl (7 - x))]) rfl rfl rfl rfl ?_
            refine r_iinc (pc' := 104) (ls' := [some (.inr (.inr 232)), some (.inl f), some (.inl r), some (.inl (S 233 (1 + f))), some (.inl r), some (.inl (mx_or s 0)), some (.inl (x + 1)), some (.inl (7 - x))]) rfl rfl rfl rfl rfl ?_
            refine r_goto (pc' := 38) rfl rfl ?_
            refine r_forget [true, true, true, true, true, true, true, false] rfl ?_
            exact ih38 ((mx_or s 0), (x + 1)) (show (0 ≤ (x + 1) ∧ (x + 1) ≤ 8) ∧ (0 ≤ (mx_or s 0) ∧ (mx_or s 0) < 256) ∧ ((mx_or s 0) = fo (rns (rpl (S 233 (1 + f))) r (S 236 (0 + f))) 0 (x + 1).toNat) from by exact ⟨by omega, by omega, by rw [fo_s (by omega), ← i2]; unfold rns; rw [show rpl (S 233 (1 + f)) x = 7 - x from if_neg h56]; rw [mx_or0 (by omega)]; exact (if_neg (fun q => absurd q.1 h68)).symm⟩) (show (8 - (x + 1)).toNat < (8 - x).toNat from by omega)
      · refine r_icmp_ge1 (pc' := 107) rfl rfl (by omega) (by omega) ?_
        refine r_iload (pc' := 109) rfl rfl rfl ?_
        refine q_iret rfl rfl rfl ?_
        obtain rfl : x = 8 := by omega
        exact ⟨by rw [i2]; unfold rnm; rw [if_neg h2, if_neg h28]; rfl, rfl⟩
theorem lf63 {S : rS} : 0 ≤ sm (fun kk => pop (S 236 (0 + kk))) 7 ∧ sm (fun kk => pop (S 236 (0 + kk))) 7 ≤ 63 := by
  have := sm_b (g := fun kk => pop (S 236 (0 + kk))) (n := 7) (m := 9) (fun k _ _ => pop_r _) 7 (Nat.le_refl _)
  exact ⟨this.1, this.2⟩
theorem c_X11_leftInAll {S : rS} (hB : Bd S) : CS 2 97 [.inr (.inr 232)] S (fun r' S' => r' = some (.inl (sm (fun kk => pop (S 236 (0 + kk))) 7)) ∧ S' = S) := by
  refine RS.beg (ls := [some (.inr (.inr 232)), none, none]) rfl rfl rfl rfl rfl ?_
  refine r_const (pc' := 1) rfl rfl ?_
  refine r_istore (pc' := 2) (ls' := [some (.inr (.inr 232)), some (.inl 0), none]) rfl rfl rfl rfl ?_
  refine r_const (pc' := 3) rfl rfl ?_
  refine r_istore (pc' := 4) (ls' := [some (.inr (.inr 232)), some (.inl 0), some (.inl 0)]) rfl rfl rfl rfl ?_
  refine r_while (α := Int × Int) (fun z' => [some (.inr (.inr 232)), some (.inl z'.2), some (.inl z'.1)]) (fun z' => S) (fun z' => (0 ≤ z'.1 ∧ z'.1 ≤ 7) ∧ (z'.2 = sm (fun kk => pop (S 236 (0 + kk))) z'.1)) (fun z' => (7 - z'.1).toNat) ?_ (0, 0) (show (0 ≤ (0 : Int) ∧ (0 : Int) ≤ 7) ∧ ((0 : Int) = sm (fun kk => pop (S 236 (0 + kk))) (0 : Int)) from by exact ⟨by omega, rfl⟩)
  rintro ⟨f, s⟩ hI' ih4
  have hI' : (0 ≤ f ∧ f ≤ 7) ∧ (s = sm (fun kk => pop (S 236 (0 + kk))) f) := hI'
  obtain ⟨i1, i2⟩ := hI'
  show RS _ _ _ _ [some (.inr (.inr 232)), some (.inl s), some (.inl f)] [] S
  refine r_iload (pc' := 5) rfl rfl rfl ?_
  refine r_const (pc' := 7) rfl rfl ?_
  by_cases h1 : f < 7
  · refine r_icmp_ge0 (pc' := 10) rfl rfl (by omega) (by omega) ?_
    refine r_iload (pc' := 11) rfl rfl rfl ?_
    refine r_aload (pc' := 12) rfl rfl rfl ?_
    refine r_getr (pc' := 15) (v := 236) rfl rfl rfl rfl rfl ?_
    refine r_const (pc' := 16) rfl rfl ?_
    refine r_iload (pc' := 17) rfl rfl rfl ?_
    refine r_iadd (pc' := 18) rfl rfl ?_
    refine r_aldv (pc' := 19) (v := (S 236 (0 + f))) 12 rfl rfl rfl (by omega) rfl ?_
    have b2 := bdc_236_0 hB f
    refine q_callE (pc' := 22) (w := some (.inl (pop (S 236 (0 + f))))) (S2 := S) (st' := [.inl (pop (S 236 (0 + f))), .inl s]) rfl rfl rfl (c_X11_bits (a := (S 236 (0 + f))) (S := S)  (show 0 ≤ (S 236 (0 + f)) ∧ (S 236 (0 + f)) < 512 from by omega)) (by decide) rfl rfl (Nat.le_of_ble_eq_true rfl) (fun q => absurd rfl q) rfl rfl ?_
    have b3 : 0 ≤ (pop (S 236 (0 + f))) ∧ (pop (S 236 (0 + f))) ≤ 9 := pop_r _
    refine r_iadd (pc' := 23) rfl rfl ?_
    refine r_istore (pc' := 24) (ls' := [some (.inr (.inr 232)), some (.inl (s + (pop (S 236 (0 + f))))), some (.inl f)]) rfl rfl rfl rfl ?_
    refine r_iinc (pc' := 27) (ls' := [some (.inr (.inr 232)), some (.inl (s + (pop (S 236 (0 + f))))), some (.inl (f + 1))]) rfl rfl rfl rfl rfl ?_
    refine r_goto (pc' := 4) rfl rfl ?_
    exact ih4 ((f + 1), (s + (pop (S 236 (0 + f))))) (show (0 ≤ (f + 1) ∧ (f + 1) ≤ 7) ∧ ((s + (pop (S 236 (0 + f)))) = sm (fun kk => pop (S 236 (0 + kk))) (f + 1)) from by exact ⟨by omega, by rw [i2]; exact (sm_s (by omega)).symm⟩) (show (7 - (f + 1)).toNat < (7 - f).toNat from by omega)
  · refine r_icmp_ge1 (pc' := 30) rfl rfl (by omega) (by omega) ?_
    refine r_iload (pc' := 31) rfl rfl rfl ?_
    refine q_iret rfl rfl rfl ?_
    obtain rfl : f = 7 := by omega
    exact ⟨by rw [i2], rfl⟩
noncomputable def v_X11_field (S : rS) (f : Int) (k : Int) : Int := if 0 ≤ f ∧ f ≤ S 233 0 - 1 then if k = 0 then S 233 ((1 + (7 * k)) + f) else if k = 1 then S 233 ((1 + (7 * k)) + f) else if k = 2 then S 233 ((1 + (7 * k)) + f) else if k = 3 then S 233 ((1 + (7 * k)) + f) else if k = 4 then pop (S 236 (0 + f)) else if k = 5 then S 236 (0 + f) else if k = 6 then mins (S 233 (1 + f)) (pop (S 236 (0 + f))) else if k = 7 then mx_and (mx_shr (S 236 9) f) 1 else (-3) else (-2)
theorem c_X11_field {f : Int} {k : Int} {S : rS} (hB : Bd S) (h_f : -2147483648 ≤ f ∧ f < 2147483648) (h_k : -2147483648 ≤ k ∧ k < 2147483648) : CS 3 80 [.inr (.inr 232), .inl f, .inl k] S (fun r' S' => r' = some (.inl (v_X11_field S f k)) ∧ S' = S) := by
  refine RS.beg (ls := [some (.inr (.inr 232)), some (.inl f), some (.inl k)]) rfl rfl rfl rfl rfl ?_
  have n0 : 0 ≤ S 233 0 ∧ S 233 0 ≤ 7 := hB 233 0
  have s7 : 0 ≤ S 236 7 ∧ S 236 7 ≤ 99 := hB 236 7
  have s8 : 0 ≤ S 236 8 ∧ S 236 8 ≤ 999 := hB 236 8
  have s9 : 0 ≤ S 236 9 ∧ S 236 9 ≤ 127 := hB 236 9
  have s10 : 0 ≤ S 236 10 ∧ S 236 10 ≤ 9 := hB 236 10
  have s11 : 0 ≤ S 236 11 ∧ S 236 11 ≤ 6 := hB 236 11
  have dk : 0 ≤ S 233 186 ∧ S 233 186 ≤ 99 := hB 233 186
  refine r_aload (pc' := 1) rfl rfl rfl ?_
  refine r_iload (pc' := 2) rfl rfl rfl ?_
  have b1 : 0 ≤ S 233 0 ∧ S 233 0 ≤ 7 := hB 233 0
  by_cases h2 : 0 ≤ f ∧ f ≤ S 233 0 - 1
  · skip
    refine q_callE (pc' := 5) (w := some (.inl 1)) (S2 := S) (st' := [.inl 1]) rfl rfl rfl (bi_pos h2 (c_X11_isField (f := f) (S := S) hB (show -2147483648 ≤ f ∧ f < 2147483648 from by omega))) (by decide) rfl rfl (Nat.le_of_ble_eq_true rfl) (fun _ _ => ⟨_, _, rfl, rfl⟩) rfl rfl ?_
    refine r_if_ne1 (pc' := 11) rfl rfl (by decide) (by decide) ?_
    refine r_iload (pc' := 12) rfl rfl rfl ?_
    by_cases h3 : k = 0
    · refine r_tsw (pc' := 60) 0 rfl rfl rfl (by omega) (by omega) ?_
      refine r_aload (pc' := 61) rfl rfl rfl ?_
      refine r_getr (pc' := 64) (v := 233) rfl rfl rfl rfl rfl ?_
      refine r_const (pc' := 65) rfl rfl ?_
      refine r_const (pc' := 67) rfl rfl ?_
      refine r_iload (pc' := 68) rfl rfl rfl ?_
      refine r_imul (pc' := 69) rfl rfl ?_
      refine r_iadd (pc' := 70) rfl rfl ?_
      refine r_iload (pc' := 71) rfl rfl rfl ?_
      refine r_iadd (pc' := 72) rfl rfl ?_
      refine r_aldv (pc' := 73) (v := (S 233 ((1 + (7 * k)) + f))) 187 rfl rfl rfl (by omega) rfl ?_
      have b4 := bda_233 hB ((1 + (7 * k)) + f)
      refine q_iret rfl rfl rfl ?_
      exact ⟨by unfold v_X11_field; rw [if_pos h2, if_pos h3], rfl⟩
    by_cases h5 : k = 1
    · refine r_tsw (pc' := 60) 1 rfl rfl rfl (by omega) (by omega) ?_
      refine r_aload (pc' := 61) rfl rfl rfl ?_
      refine r_getr (pc' := 64) (v := 233) rfl rfl rfl rfl rfl ?_
      refine r_const (pc' := 65) rfl rfl ?_
      refine r_const (pc' := 67) rfl rfl ?_
      refine r_iload (pc' := 68) rfl rfl rfl ?_
      refine r_imul (pc' := 69) rfl rfl ?_
      refine r_iadd (pc' := 70) rfl rfl ?_
      refine r_iload (pc' := 71) rfl rfl rfl ?_
      refine r_iadd (pc' := 72) rfl rfl ?_
      refine r_aldv (pc' := 73) (v := (S 233 ((1 + (7 * k)) + f))) 187 rfl rfl rfl (by omega) rfl ?_
      have b6 := bda_233 hB ((1 + (7 * k)) + f)
      refine q_iret rfl rfl rfl ?_
      exact ⟨by unfold v_X11_field; rw [if_pos h2, if_neg h3, if_pos h5], rfl⟩
    by_cases h7 : k = 2
    · refine r_tsw (pc' := 60) 2 rfl rfl rfl (by omega) (by omega) ?_
      refine r_aload (pc' := 61) rfl rfl rfl ?_
      refine r_getr (pc' := 64) (v := 233) rfl rfl rfl rfl rfl ?_
      refine r_const (pc' := 65) rfl rfl ?_
      refine r_const (pc' := 67) rfl rfl ?_
      refine r_iload (pc' := 68) rfl rfl rfl ?_
      refine r_imul (pc' := 69) rfl rfl ?_
      refine r_iadd (pc' := 70) rfl rfl ?_
      refine r_iload (pc' := 71) rfl rfl rfl ?_
      refine r_iadd (pc' := 72) rfl rfl ?_
      refine r_aldv (pc' := 73) (v := (S 233 ((1 + (7 * k)) + f))) 187 rfl rfl rfl (by omega) rfl ?_
      have b8 := bda_233 hB ((1 + (7 * k)) + f)
      refine q_iret rfl rfl rfl ?_
      exact ⟨by unfold v_X11_field; rw [if_pos h2, if_neg h3, if_neg h5, if_pos h7], rfl⟩
    by_cases h9 : k = 3
    · refine r_tsw (pc' := 60) 3 rfl rfl rfl (by omega) (by omega) ?_
      refine r_aload (pc' := 61) rfl rfl rfl ?_
      refine r_getr (pc' := 64) (v := 233) rfl rfl rfl rfl rfl ?_
      refine r_const (pc' := 65) rfl rfl ?_
      refine r_const (pc' := 67) rfl rfl ?_
      refine r_iload (pc' := 68) rfl rfl rfl ?_
      refine r_imul (pc' := 69) rfl rfl ?_
      refine r_iadd (pc' := 70) rfl rfl ?_
      refine r_iload (pc' := 71) rfl rfl rfl ?_
      refine r_iadd (pc' := 72) rfl rfl ?_
      refine r_aldv (pc' := 73) (v := (S 233 ((1 + (7 * k)) + f))) 187 rfl rfl rfl (by omega) rfl ?_
      have b10 := bda_233 hB ((1 + (7 * k)) + f)
      refine q_iret rfl rfl rfl ?_
      exact ⟨by unfold v_X11_field; rw [if_pos h2, if_neg h3, if_neg h5, if_neg h7, if_pos h9], rfl⟩
    by_cases h11 : k = 4
    · refine r_tsw (pc' := 74) 4 rfl rfl rfl (by omega) (by omega) ?_
      refine r_aload (pc' := 75) rfl rfl rfl ?_
      refine r_getr (pc' := 78) (v := 236) rfl rfl rfl rfl rfl ?_
      refine r_const (pc' := 79) rfl rfl ?_
      refine r_iload (pc' := 80) rfl rfl rfl ?_
      refine r_iadd (pc' := 81) rfl rfl ?_
      refine r_aldv (pc' := 82) (v := (S 236 (0 + f))) 12 rfl rfl rfl (by omega) rfl ?_
      have b12 := bdc_236_0 hB f
      refine q_callE (pc' := 85) (w := some (.inl (pop (S 236 (0 + f))))) (S2 := S) (st' := [.inl (pop (S 236 (0 + f)))]) rfl rfl rfl (c_X11_bits (a := (S 236 (0 + f))) (S := S)  (show 0 ≤ (S 236 (0 + f)) ∧ (S 236 (0 + f)) < 512 from by omega)) (by decide) rfl rfl (Nat.le_of_ble_eq_true rfl) (fun q => absurd rfl q) rfl rfl ?_
      have b13 : 0 ≤ (pop (S 236 (0 + f))) ∧ (pop (S 236 (0 + f))) ≤ 9 := pop_r _
      refine q_iret rfl rfl rfl ?_
      exact ⟨by unfold v_X11_field; rw [if_pos h2, if_neg h3, if_neg h5, if_neg h7, if_neg h9, if_pos h11], rfl⟩
    by_cases h14 : k = 5
    · refine r_tsw (pc' := 86) 5 rfl rfl rfl (by omega) (by omega) ?_
      refine r_aload (pc' := 87) rfl rfl rfl ?_
      refine r_getr (pc' := 90) (v := 236) rfl rfl rfl rfl rfl ?_
      refine r_const (pc' := 91) rfl rfl ?_
      refine r_iload (pc' := 92) rfl rfl rfl ?_
      refine r_iadd (pc' := 93) rfl rfl ?_
      refine r_aldv (pc' := 94) (v := (S 236 (0 + f))) 12 rfl rfl rfl (by omega) rfl ?_
      have b15 := bdc_236_0 hB f
      refine q_iret rfl rfl rfl ?_
      exact ⟨by unfold v_X11_field; rw [if_pos h2, if_neg h3, if_neg h5, if_neg h7, if_neg h9, if_neg h11, if_pos h14], rfl⟩
    by_cases h16 : k = 6
    · refine r_tsw (pc' := 95) 6 rfl rfl rfl (by omega) (by omega) ?_
      refine r_aload (pc' := 96) rfl rfl rfl ?_
      refine r_iload (pc' := 97) rfl rfl rfl ?_
      have b17 := bdc_233_1 hB f
      have b18 := bdc_236_0 hB f
      refine q_callE (pc' := 100) (w := some (.inl (mins (S 233 (1 + f)) (pop (S 236 (0 + f)))))) (S2 := S) (st' := [.inl (mins (S 233 (1 + f)) (pop (S 236 (0 + f))))]) rfl rfl rfl (c_X11_minutesAt (f := f) (S := S) hB (show 0 ≤ f ∧ f < 7 from by omega)) (by decide) rfl rfl (Nat.le_of_ble_eq_true rfl) (fun _ _ => ⟨_, _, rfl, rfl⟩) rfl rfl ?_
      have b19 : 0 ≤ (mins (S 233 (1 + f)) (pop (S 236 (0 + f)))) ∧ (mins (S 233 (1 + f)) (pop (S 236 (0 + f)))) ≤ 34 := mM_r hB (by omega)
      refine q_iret rfl rfl rfl ?_
      exact ⟨by unfold v_X11_field; rw [if_pos h2, if_neg h3, if_neg h5, if_neg h7, if_neg h9, if_neg h11, if_neg h14, if_pos h16], rfl⟩
    by_cases h20 : k = 7
    · refine r_tsw (pc' := 101) 7 rfl rfl rfl (by omega) (by omega) ?_
      refine r_aload (pc' := 102) rfl rfl rfl ?_
      refine r_getr (pc' := 105) (v := 236) rfl rfl rfl rfl rfl ?_
      refine r_const (pc' := 107) rfl rfl ?_
      refine r_aldv (pc' := 108) (v := (S 236 9)) 12 rfl rfl rfl (by omega) rfl ?_
      have b21 : 0 ≤ S 236 9 ∧ S 236 9 ≤ 127 := hB 236 9
      refine r_iload (pc' := 109) rfl rfl rfl ?_
      refine r_ishr (pc' := 110) rfl rfl ?_
      have b22 := mx_shr_r (S 236 9) f
      refine r_const (pc' := 111) rfl rfl ?_
      refine r_iand (pc' := 112) rfl rfl ?_
      have b23 := mx_and_r (mx_shr (S 236 9) f) 1
      refine q_iret rfl rfl rfl ?_
      exact ⟨by unfold v_X11_field; rw [if_pos h2, if_neg h3, if_neg h5, if_neg h7, if_neg h9, if_neg h11, if_neg h14, if_neg h16, if_pos h20], rfl⟩
    refine r_tswd (pc' := 113) rfl rfl (by omega) (by omega) ?_
    refine r_const (pc' := 115) rfl rfl ?_
    refine q_iret rfl rfl rfl ?_
    exact ⟨by unfold v_X11_field; rw [if_pos h2, if_neg h3, if_neg h5, if_neg h7, if_neg h9, if_neg h11, if_neg h14, if_neg h16, if_neg h20], rfl⟩
  · skip
    refine q_callE (pc' := 5) (w := some (.inl 0)) (S2 := S) (st' := [.inl 0]) rfl rfl rfl (bi_neg h2 (c_X11_isField (f := f) (S := S) hB (show -2147483648 ≤ f ∧ f < 2147483648 from by omega))) (by decide) rfl rfl (Nat.le_of_ble_eq_true rfl) (fun _ _ => ⟨_, _, rfl, rfl⟩) rfl rfl ?_
    refine r_if_ne0 (pc' := 8) rfl rfl (by decide) (by decide) ?_
    refine r_const (pc' := 10) rfl rfl ?_
    refine q_iret rfl rfl rfl ?_
    exact ⟨by unfold v_X11_field; rw [if_neg h2], rfl⟩
noncomputable def v_X11_letter (S : rS) (f : Int) (q : Int) : Int := if 0 ≤ f ∧ f ≤ S 233 0 - 1 then if (0 : Int) ≤ q ∧ q ≤ ((S 233 (22 + f)) - 1) then if tb (S 236 (0 + f)) q then S 233 ((29 + (8 * f)) + q) else (-1) else (-2) else (-2)
theorem c_X11_letter {f : Int} {q : Int} {S : rS} (hB : Bd S) (h_f : -2147483648 ≤ f ∧ f < 2147483648) (h_q : -2147483648 ≤ q ∧ q < 2147483648) : CS 3 99 [.inr (.inr 232), .inl f, .inl q] S (fun r' S' => r' = some (.inl (v_X11_letter S f q)) ∧ S' = S) := by
  refine RS.beg (ls := [some (.inr (.inr 232)), some (.inl f), some (.inl q)]) rfl rfl rfl rfl rfl ?_
  have n0 : 0 ≤ S 233 0 ∧ S 233 0 ≤ 7 := hB 233 0
  refine r_aload (pc' := 1) rfl rfl rfl ?_
  refine r_iload (pc' := 2) rfl rfl rfl ?_
  have b1 : 0 ≤ S 233 0 ∧ S 233 0 ≤ 7 := hB 233 0
  by_cases h2 : 0 ≤ f ∧ f ≤ S 233 0 - 1
  · skip
    refine q_callE (pc' := 5) (w := some (.inl 1)) (S2 := S) (st' := [.inl 1]) rfl rfl rfl (bi_pos h2 (c_X11_isField (f := f) (S := S) hB (show -2147483648 ≤ f ∧ f < 2147483648 from by omega))) (by decide) rfl rfl (Nat.le_of_ble_eq_true rfl) (fun _ _ => ⟨_, _, rfl, rfl⟩) rfl rfl ?_
    refine r_if_eq0 (pc' := 8) rfl rfl (by decide) (by decide) ?_
    refine r_iload (pc' := 9) rfl rfl rfl ?_
    refine r_i2l (pc' := 10) rfl rfl (by omega) ?_
    refine r_lcon (pc' := 11) rfl rfl ?_
    refine r_aload (pc' := 12) rfl rfl rfl ?_
    refine r_getr (pc' := 15) (v := 233) rfl rfl rfl rfl rfl ?_
    refine r_const (pc' := 17) rfl rfl ?_
    refine r_iload (pc' := 18) rfl rfl rfl ?_
    refine r_iadd (pc' := 19) rfl rfl ?_
    refine r_aldv (pc' := 20) (v := (S 233 (22 + f))) 187 rfl rfl rfl (by omega) rfl ?_
    have b3 := bdc_233_22 hB f
    refine r_const (pc' := 21) rfl rfl ?_
    refine r_isub (pc' := 22) rfl rfl ?_
    refine r_i2l (pc' := 23) rfl rfl (by omega) ?_
    by_cases h4 : (0 : Int) ≤ q ∧ q ≤ ((S 233 (22 + f)) - 1)
    · skip
      refine q_callE (pc' := 26) (w := some (.inl 1)) (S2 := S) (st' := [.inl 1]) rfl rfl rfl (bi_pos h4 (c_X11_in (a := q) (b := 0) (c := ((S 233 (22 + f)) - 1)) (S := S)  (show -2147483648 ≤ q ∧ q < 2147483648 from by omega) (show -2147483648 ≤ (0 : Int) ∧ (0 : Int) < 2147483648 from by omega) (show -2147483648 ≤ ((S 233 (22 + f)) - 1) ∧ ((S 233 (22 + f)) - 1) < 2147483648 from by omega))) (by decide) rfl rfl (Nat.le_of_ble_eq_true rfl) (fun q => absurd rfl q) rfl rfl ?_
      refine r_if_ne1 (pc' := 32) rfl rfl (by decide) (by decide) ?_
      refine r_aload (pc' := 33) rfl rfl rfl ?_
      refine r_getr (pc' := 36) (v := 236) rfl rfl rfl rfl rfl ?_
      refine r_const (pc' := 37) rfl rfl ?_
      refine r_iload (pc' := 38) rfl rfl rfl ?_
      refine r_iadd (pc' := 39) rfl rfl ?_
      refine r_aldv (pc' := 40) (v := (S 236 (0 + f))) 12 rfl rfl rfl (by omega) rfl ?_
      have b5 := bdc_236_0 hB f
      refine r_iload (pc' := 41) rfl rfl rfl ?_
      by_cases h6 : tb (S 236 (0 + f)) q
      · skip
        refine q_callE (pc' := 44) (w := some (.inl 1)) (S2 := S) (st' := [.inl 1]) rfl rfl rfl (bi_pos h6 (c_X11_has (s := (S 236 (0 + f))) (q := q) (S := S)  (show -2147483648 ≤ (S 236 (0 + f)) ∧ (S 236 (0 + f)) < 2147483648 from by omega) (show 0 ≤ q ∧ q < 32 from by omega))) (by decide) rfl rfl (Nat.le_of_ble_eq_true rfl) (fun q => absurd rfl q) rfl rfl ?_
        refine r_if_eq0 (pc' := 47) rfl rfl (by decide) (by decide) ?_
        refine r_aload (pc' := 48) rfl rfl rfl ?_
        refine r_getr (pc' := 51) (v := 233) rfl rfl rfl rfl rfl ?_
        refine r_const (pc' := 53) rfl rfl ?_
        refine r_const (pc' := 55) rfl rfl ?_
        refine r_iload (pc' := 56) rfl rfl rfl ?_
        refine r_imul (pc' := 57) rfl rfl ?_
        refine r_iadd (pc' := 58) rfl rfl ?_
        refine r_iload (pc' := 59) rfl rfl rfl ?_
        refine r_iadd (pc' := 60) rfl rfl ?_
        refine r_aldv (pc' := 61) (v := (S 233 ((29 + (8 * f)) + q))) 187 rfl rfl rfl (by omega) rfl ?_
        have b7 := bda_233 hB ((29 + (8 * f)) + q)
        refine r_goto (pc' := 65) rfl rfl ?_
        refine q_iret rfl rfl rfl ?_
        exact ⟨by unfold v_X11_letter; rw [if_pos h2, if_pos h4, if_pos h6], rfl⟩
      · skip
        refine q_callE (pc' := 44) (w := some (.inl 0)) (S2 := S) (st' := [.inl 0]) rfl rfl rfl (bi_neg h6 (c_X11_has (s := (S 236 (0 + f))) (q := q) (S := S)  (show -2147483648 ≤ (S 236 (0 + f)) ∧ (S 236 (0 + f)) < 2147483648 from by omega) (show 0 ≤ q ∧ q < 32 from by omega))) (by decide) rfl rfl (Nat.le_of_ble_eq_true rfl) (fun q => absurd rfl q) rfl rfl ?_
        refine r_if_eq1 (pc' := 64) rfl rfl (by decide) (by decide) ?_
        refine r_const (pc' := 65) rfl rfl ?_
        refine q_iret rfl rfl rfl ?_
        exact ⟨by unfold v_X11_letter; rw [if_pos h2, if_pos h4, if_neg h6], rfl⟩
    · skip
      refine q_callE (pc' := 26) (w := some (.inl 0)) (S2 := S) (st' := [.inl 0]) rfl rfl rfl (bi_neg h4 (c_X11_in (a := q) (b := 0) (c := ((S 233 (22 + f)) - 1)) (S := S)  (show -2147483648 ≤ q ∧ q < 2147483648 from by omega) (show -2147483648 ≤ (0 : Int) ∧ (0 : Int) < 2147483648 from by omega) (show -2147483648 ≤ ((S 233 (22 + f)) - 1) ∧ ((S 233 (22 + f)) - 1) < 2147483648 from by omega))) (by decide) rfl rfl (Nat.le_of_ble_eq_true rfl) (fun q => absurd rfl q) rfl rfl ?_
      refine r_if_ne0 (pc' := 29) rfl rfl (by decide) (by decide) ?_
      refine r_const (pc' := 31) rfl rfl ?_
      refine q_iret rfl rfl rfl ?_
      exact ⟨by unfold v_X11_letter; rw [if_pos h2, if_neg h4], rfl⟩
  · skip
    refine q_callE (pc' := 5) (w := some (.inl 0)) (S2 := S) (st' := [.inl 0]) rfl rfl rfl (bi_neg h2 (c_X11_isField (f := f) (S := S) hB (show -2147483648 ≤ f ∧ f < 2147483648 from by omega))) (by decide) rfl rfl (Nat.le_of_ble_eq_true rfl) (fun _ _ => ⟨_, _, rfl, rfl⟩) rfl rfl ?_
    refine r_if_eq1 (pc' := 29) rfl rfl (by decide) (by decide) ?_
    refine r_const (pc' := 31) rfl rfl ?_
    refine q_iret rfl rfl rfl ?_
    exact ⟨by unfold v_X11_letter; rw [if_neg h2], rfl⟩
noncomputable def v_X11_gate (S : rS) (g : Int) (k : Int) : Int := if (0 : Int) ≤ g ∧ g ≤ ((S 233 85) - 1) then if (0 : Int) ≤ k ∧ k ≤ (2 : Int) then S 233 ((86 + (9 * k)) + g) else (-3) else (-2)
theorem c_X11_gate {g : Int} {k : Int} {S : rS} (hB : Bd S) (h_g : -2147483648 ≤ g ∧ g < 2147483648) (h_k : -2147483648 ≤ k ∧ k < 2147483648) : CS 2 83 [.inr (.inr 232), .inl g, .inl k] S (fun r' S' => r' = some (.inl (v_X11_gate S g k)) ∧ S' = S) := by
  refine RS.beg (ls := [some (.inr (.inr 232)), some (.inl g), some (.inl k)]) rfl rfl rfl rfl rfl ?_
  have n6 : 0 ≤ S 233 85 ∧ S 233 85 ≤ 9 := hB 233 85
  refine r_iload (pc' := 1) rfl rfl rfl ?_
  refine r_i2l (pc' := 2) rfl rfl (by omega) ?_
  refine r_lcon (pc' := 3) rfl rfl ?_
  refine r_aload (pc' := 4) rfl rfl rfl ?_
  refine r_getr (pc' := 7) (v := 233) rfl rfl rfl rfl rfl ?_
  refine r_const (pc' := 9) rfl rfl ?_
  refine r_aldv (pc' := 10) (v := (S 233 85)) 187 rfl rfl rfl (by omega) rfl ?_
  have b1 : 0 ≤ S 233 85 ∧ S 233 85 ≤ 9 := hB 233 85
  refine r_const (pc' := 11) rfl rfl ?_
  refine r_isub (pc' := 12) rfl rfl ?_
  refine r_i2l (pc' := 13) rfl rfl (by omega) ?_
  by_cases h2 : (0 : Int) ≤ g ∧ g ≤ ((S 233 85) - 1)
  · skip
    refine q_callE (pc' := 16) (w := some (.inl 1)) (S2 := S) (st' := [.inl 1]) rfl rfl rfl (bi_pos h2 (c_X11_in (a := g) (b := 0) (c := ((S 233 85) - 1)) (S := S)  (show -2147483648 ≤ g ∧ g < 2147483648 from by omega) (show -2147483648 ≤ (0 : Int) ∧ (0 : Int) < 2147483648 from by omega) (show -2147483648 ≤ ((S 233 85) - 1) ∧ ((S 233 85) - 1) < 2147483648 from by omega))) (by decide) rfl rfl (Nat.le_of_ble_eq_true rfl) (fun q => absurd rfl q) rfl rfl ?_
    refine r_if_ne1 (pc' := 22) rfl rfl (by decide) (by decide) ?_
    refine r_iload (pc' := 23) rfl rfl rfl ?_
    refine r_i2l (pc' := 24) rfl rfl (by omega) ?_
    refine r_lcon (pc' := 25) rfl rfl ?_
    refine r_lcon (pc' := 28) rfl rfl ?_
    by_cases h3 : (0 : Int) ≤ k ∧ k ≤ (2 : Int)
    · skip
      refine q_callE (pc' := 31) (w := some (.inl 1)) (S2 := S) (st' := [.inl 1]) rfl rfl rfl (bi_pos h3 (c_X11_in (a := k) (b := 0) (c := 2) (S := S)  (show -2147483648 ≤ k ∧ k < 2147483648 from by omega) (show -2147483648 ≤ (0 : Int) ∧ (0 : Int) < 2147483648 from by omega) (show -2147483648 ≤ (2 : Int) ∧ (2 : Int) < 2147483648 from by omega))) (by decide) rfl rfl (Nat.le_of_ble_eq_true rfl) (fun q => absurd rfl q) rfl rfl ?_
      refine r_if_eq0 (pc' := 34) rfl rfl (by decide) (by decide) ?_
      refine r_aload (pc' := 35) rfl rfl rfl ?_
      refine r_getr (pc' := 38) (v := 233) rfl rfl rfl rfl rfl ?_
      refine r_const (pc' := 40) rfl rfl ?_
      refine r_const (pc' := 42) rfl rfl ?_
      refine r_iload (pc' := 43) rfl rfl rfl ?_
      refine r_imul (pc' := 44) rfl rfl ?_
      refine r_iadd (pc' := 45) rfl rfl ?_
      refine r_iload (pc' := 46) rfl rfl rfl ?_
      refine r_iadd (pc' := 47) rfl rfl ?_
      refine r_aldv (pc' := 48) (v := (S 233 ((86 + (9 * k)) + g))) 187 rfl rfl rfl (by omega) rfl ?_
      have b4 := bda_233 hB ((86 + (9 * k)) + g)
      refine r_goto (pc' := 53) rfl rfl ?_
      refine q_iret rfl rfl rfl ?_
      exact ⟨by unfold v_X11_gate; rw [if_pos h2, if_pos h3], rfl⟩
    · skip
      refine q_callE (pc' := 31) (w := some (.inl 0)) (S2 := S) (st' := [.inl 0]) rfl rfl rfl (bi_neg h3 (c_X11_in (a := k) (b := 0) (c := 2) (S := S)  (show -2147483648 ≤ k ∧ k < 2147483648 from by omega) (show -2147483648 ≤ (0 : Int) ∧ (0 : Int) < 2147483648 from by omega) (show -2147483648 ≤ (2 : Int) ∧ (2 : Int) < 2147483648 from by omega))) (by decide) rfl rfl (Nat.le_of_ble_eq_true rfl) (fun q => absurd rfl q) rfl rfl ?_
      refine r_if_eq1 (pc' := 51) rfl rfl (by decide) (by decide) ?_
      refine r_const (pc' := 53) rfl rfl ?_
      refine q_iret rfl rfl rfl ?_
      exact ⟨by unfold v_X11_gate; rw [if_pos h2, if_neg h3], rfl⟩
  · skip
    refine q_callE (pc' := 16) (w := some (.inl 0)) (S2 := S) (st' := [.inl 0]) rfl rfl rfl (bi_neg h2 (c_X11_in (a := g) (b := 0) (c := ((S 233 85) - 1)) (S := S)  (show -2147483648 ≤ g ∧ g < 2147483648 from by omega) (show -2147483648 ≤ (0 : Int) ∧ (0 : Int) < 2147483648 from by omega) (show -2147483648 ≤ ((S 233 85) - 1) ∧ ((S 233 85) - 1) < 2147483648 from by omega))) (by decide) rfl rfl (Nat.le_of_ble_eq_true rfl) (fun q => absurd rfl q) rfl rfl ?_
    refine r_if_ne0 (pc' := 19) rfl rfl (by decide) (by decide) ?_
    refine r_const (pc' := 21) rfl rfl ?_
    refine q_iret rfl rfl rfl ?_
    exact ⟨by unfold v_X11_gate; rw [if_neg h2], rfl⟩
noncomputable def v_X11_word (S : rS) (g : Int) (q : Int) : Int := if (0 : Int) ≤ g ∧ g ≤ ((S 233 113) - 1) then if (-1 : Int) ≤ q ∧ q ≤ ((S 233 (114 + g)) - 1) then if q = (-1) then S 233 (114 + g) else S 233 ((122 + (8 * g)) + q) else (-2) else (-2)
theorem c_X11_word {g : Int} {q : Int} {S : rS} (hB : Bd S) (h_g : -2147483648 ≤ g ∧ g < 2147483648) (h_q : -2147483648 ≤ q ∧ q < 2147483648) : CS 2 131 [.inr (.inr 232), .inl g, .inl q] S (fun r' S' => r' = some (.inl (v_X11_word S g q)) ∧ S' = S) := by
  refine RS.beg (ls := [some (.inr (.inr 232)), some (.inl g), some (.inl q)]) rfl rfl rfl rfl rfl ?_
  have n10 : 0 ≤ S 233 113 ∧ S 233 113 ≤ 8 := hB 233 113
  refine r_iload (pc' := 1) rfl rfl rfl ?_
  refine r_i2l (pc' := 2) rfl rfl (by omega) ?_
  refine r_lcon (pc' := 3) rfl rfl ?_
  refine r_aload (pc' := 4) rfl rfl rfl ?_
  refine r_getr (pc' := 7) (v := 233) rfl rfl rfl rfl rfl ?_
  refine r_const (pc' := 9) rfl rfl ?_
  refine r_aldv (pc' := 10) (v := (S 233 113)) 187 rfl rfl rfl (by omega) rfl ?_
  have b1 : 0 ≤ S 233 113 ∧ S 233 113 ≤ 8 := hB 233 113
  refine r_const (pc' := 11) rfl rfl ?_
  refine r_isub (pc' := 12) rfl rfl ?_
  refine r_i2l (pc' := 13) rfl rfl (by omega) ?_
  by_cases h2 : (0 : Int) ≤ g ∧ g ≤ ((S 233 113) - 1)
  · skip
    refine q_callE (pc' := 16) (w := some (.inl 1)) (S2 := S) (st' := [.inl 1]) rfl rfl rfl (bi_pos h2 (c_X11_in (a := g) (b := 0) (c := ((S 233 113) - 1)) (S := S)  (show -2147483648 ≤ g ∧ g < 2147483648 from by omega) (show -2147483648 ≤ (0 : Int) ∧ (0 : Int) < 2147483648 from by omega) (show -2147483648 ≤ ((S 233 113) - 1) ∧ ((S 233 113) - 1) < 2147483648 from by omega))) (by decide) rfl rfl (Nat.le_of_ble_eq_true rfl) (fun q => absurd rfl q) rfl rfl ?_
    refine r_if_eq0 (pc' := 19) rfl rfl (by decide) (by decide) ?_
    refine r_iload (pc' := 20) rfl rfl rfl ?_
    refine r_i2l (pc' := 21) rfl rfl (by omega) ?_
    refine r_lcon (pc' := 24) rfl rfl ?_
    refine r_aload (pc' := 25) rfl rfl rfl ?_
    refine r_getr (pc' := 28) (v := 233) rfl rfl rfl rfl rfl ?_
    refine r_const (pc' := 30) rfl rfl ?_
    refine r_iload (pc' := 31) rfl rfl rfl ?_
    refine r_iadd (pc' := 32) rfl rfl ?_
    refine r_aldv (pc' := 33) (v := (S 233 (114 + g))) 187 rfl rfl rfl (by omega) rfl ?_
    have b3 := bdc_233_114 hB g
    refine r_const (pc' := 34) rfl rfl ?_
    refine r_isub (pc' := 35) rfl rfl ?_
    refine r_i2l (pc' := 36) rfl rfl (by omega) ?_
    by_cases h4 : (-1 : Int) ≤ q ∧ q ≤ ((S 233 (114 + g)) - 1)
    · skip
      refine q_callE (pc' := 39) (w := some (.inl 1)) (S2 := S) (st' := [.inl 1]) rfl rfl rfl (bi_pos h4 (c_X11_in (a := q) (b := (-1)) (c := ((S 233 (114 + g)) - 1)) (S := S)  (show -2147483648 ≤ q ∧ q < 2147483648 from by omega) (show -2147483648 ≤ (-1 : Int) ∧ (-1 : Int) < 2147483648 from by omega) (show -2147483648 ≤ ((S 233 (114 + g)) - 1) ∧ ((S 233 (114 + g)) - 1) < 2147483648 from by omega))) (by decide) rfl rfl (Nat.le_of_ble_eq_true rfl) (fun q => absurd rfl q) rfl rfl ?_
      refine r_if_ne1 (pc' := 45) rfl rfl (by decide) (by decide) ?_
      refine r_iload (pc' := 46) rfl rfl rfl ?_
      refine r_const (pc' := 47) rfl rfl ?_
      by_cases h5 : q = (-1)
      · refine r_icmp_ne0 (pc' := 50) rfl rfl (by omega) (by omega) ?_
        refine r_aload (pc' := 51) rfl rfl rfl ?_
        refine r_getr (pc' := 54) (v := 233) rfl rfl rfl rfl rfl ?_
        refine r_const (pc' := 56) rfl rfl ?_
        refine r_iload (pc' := 57) rfl rfl rfl ?_
        refine r_iadd (pc' := 58) rfl rfl ?_
        refine r_aldv (pc' := 59) (v := (S 233 (114 + g))) 187 rfl rfl rfl (by omega) rfl ?_
        refine r_goto (pc' := 76) rfl rfl ?_
        refine q_iret rfl rfl rfl ?_
        exact ⟨by unfold v_X11_word; rw [if_pos h2, if_pos h4, if_pos h5], rfl⟩
      · refine r_icmp_ne1 (pc' := 62) rfl rfl (by omega) (by omega) ?_
        refine r_aload (pc' := 63) rfl rfl rfl ?_
        refine r_getr (pc' := 66) (v := 233) rfl rfl rfl rfl rfl ?_
        refine r_const (pc' := 68) rfl rfl ?_
        refine r_const (pc' := 70) rfl rfl ?_
        refine r_iload (pc' := 71) rfl rfl rfl ?_
        refine r_imul (pc' := 72) rfl rfl ?_
        refine r_iadd (pc' := 73) rfl rfl ?_
        refine r_iload (pc' := 74) rfl rfl rfl ?_
        refine r_iadd (pc' := 75) rfl rfl ?_
        refine r_aldv (pc' := 76) (v := (S 233 ((122 + (8 * g)) + q))) 187 rfl rfl rfl (by omega) rfl ?_
        have b6 := bda_233 hB ((122 + (8 * g)) + q)
        refine q_iret rfl rfl rfl ?_
        exact ⟨by unfold v_X11_word; rw [if_pos h2, if_pos h4, if_neg h5], rfl⟩
    · skip
      refine q_callE (pc' := 39) (w := some (.inl 0)) (S2 := S) (st' := [.inl 0]) rfl rfl rfl (bi_neg h4 (c_X11_in (a := q) (b := (-1)) (c := ((S 233 (114 + g)) - 1)) (S := S)  (show -2147483648 ≤ q ∧ q < 2147483648 from by omega) (show -2147483648 ≤ (-1 : Int) ∧ (-1 : Int) < 2147483648 from by omega) (show -2147483648 ≤ ((S 233 (114 + g)) - 1) ∧ ((S 233 (114 + g)) - 1) < 2147483648 from by omega))) (by decide) rfl rfl (Nat.le_of_ble_eq_true rfl) (fun q => absurd rfl q) rfl rfl ?_
      refine r_if_ne0 (pc' := 42) rfl rfl (by decide) (by decide) ?_
      refine r_const (pc' := 44) rfl rfl ?_
      refine q_iret rfl rfl rfl ?_
      exact ⟨by unfold v_X11_word; rw [if_pos h2, if_neg h4], rfl⟩
  · skip
    refine q_callE (pc' := 16) (w := some (.inl 0)) (S2 := S) (st' := [.inl 0]) rfl rfl rfl (bi_neg h2 (c_X11_in (a := g) (b := 0) (c := ((S 233 113) - 1)) (S := S)  (show -2147483648 ≤ g ∧ g < 2147483648 from by omega) (show -2147483648 ≤ (0 : Int) ∧ (0 : Int) < 2147483648 from by omega) (show -2147483648 ≤ ((S 233 113) - 1) ∧ ((S 233 113) - 1) < 2147483648 from by omega))) (by decide) rfl rfl (Nat.le_of_ble_eq_true rfl) (fun q => absurd rfl q) rfl rfl ?_
    refine r_if_eq1 (pc' := 42) rfl rfl (by decide) (by decide) ?_
    refine r_const (pc' := 44) rfl rfl ?_
    refine q_iret rfl rfl rfl ?_
    exact ⟨by unfold v_X11_word; rw [if_neg h2], rfl⟩
noncomputable def v_X11_as (S : rS) (f : Int) (k : Int) : Int := if 0 ≤ f ∧ f ≤ S 233 0 - 1 then if (0 : Int) ≤ k ∧ k ≤ (4 : Int) then if k = 0 then mins (((S 233 (1 + f)) + 1) - 1) (8 : Int) else if k = ((S 233 (1 + f)) + 1) then mins (((S 233 (1 + f)) + 1) - 1) (8 : Int) else if k = 1 then if ((S 233 (1 + f)) + 1) < 4 then mins (((S 233 (1 + f)) + 1) - 1) (8 : Int) else (-4) else (-4) else (-3) else (-2)
theorem c_X11_as {f : Int} {k : Int} {S : rS} (hB : Bd S) (h_f : -2147483648 ≤ f ∧ f < 2147483648) (h_k : -2147483648 ≤ k ∧ k < 2147483648) : CS 3 57 [.inr (.inr 232), .inl f, .inl k] S (fun r' S' => r' = some (.inl (v_X11_as S f k)) ∧ S' = S) := by
  refine RS.beg (ls := [some (.inr (.inr 232)), some (.inl f), some (.inl k), none, none]) rfl rfl rfl rfl rfl ?_
  have n0 : 0 ≤ S 233 0 ∧ S 233 0 ≤ 7 := hB 233 0
  refine r_aload (pc' := 1) rfl rfl rfl ?_
  refine r_iload (pc' := 2) rfl rfl rfl ?_
  have b1 : 0 ≤ S 233 0 ∧ S 233 0 ≤ 7 := hB 233 0
  by_cases h2 : 0 ≤ f ∧ f ≤ S 233 0 - 1
  · skip
    refine q_callE (pc' := 5) (w := some (.inl 1)) (S2 := S) (st' := [.inl 1]) rfl rfl rfl (bi_pos h2 (c_X11_isField (f := f) (S := S) hB (show -2147483648 ≤ f ∧ f < 2147483648 from by omega))) (by decide) rfl rfl (Nat.le_of_ble_eq_true rfl) (fun _ _ => ⟨_, _, rfl, rfl⟩) rfl rfl ?_
    refine r_if_ne1 (pc' := 11) rfl rfl (by decide) (by decide) ?_
    refine r_iload (pc' := 12) rfl rfl rfl ?_
    refine r_i2l (pc' := 13) rfl rfl (by omega) ?_
    refine r_lcon (pc' := 14) rfl rfl ?_
    refine r_lcon (pc' := 17) rfl rfl ?_
    by_cases h3 : (0 : Int) ≤ k ∧ k ≤ (4 : Int)
    · skip
      refine q_callE (pc' := 20) (w := some (.inl 1)) (S2 := S) (st' := [.inl 1]) rfl rfl rfl (bi_pos h3 (c_X11_in (a := k) (b := 0) (c := 4) (S := S)  (show -2147483648 ≤ k ∧ k < 2147483648 from by omega) (show -2147483648 ≤ (0 : Int) ∧ (0 : Int) < 2147483648 from by omega) (show -2147483648 ≤ (4 : Int) ∧ (4 : Int) < 2147483648 from by omega))) (by decide) rfl rfl (Nat.le_of_ble_eq_true rfl) (fun q => absurd rfl q) rfl rfl ?_
      refine r_if_ne1 (pc' := 26) rfl rfl (by decide) (by decide) ?_
      refine r_aload (pc' := 27) rfl rfl rfl ?_
      refine r_getr (pc' := 30) (v := 233) rfl rfl rfl rfl rfl ?_
      refine r_const (pc' := 31) rfl rfl ?_
      refine r_iload (pc' := 32) rfl rfl rfl ?_
      refine r_iadd (pc' := 33) rfl rfl ?_
      refine r_aldv (pc' := 34) (v := (S 233 (1 + f))) 187 rfl rfl rfl (by omega) rfl ?_
      have b4 := bdc_233_1 hB f
      refine r_const (pc' := 35) rfl rfl ?_
      refine r_iadd (pc' := 36) rfl rfl ?_
      refine r_istore (pc' := 37) (ls' := [some (.inr (.inr 232)), some (.inl f), some (.inl k), some (.inl ((S 233 (1 + f)) + 1)), none]) rfl rfl rfl rfl ?_
      refine r_iload (pc' := 38) rfl rfl rfl ?_
      by_cases h5 : k = 0
      · refine r_if_eq1 (pc' := 56) rfl rfl (by omega) (by omega) ?_
        refine r_const (pc' := 57) rfl rfl ?_
        refine r_goto (pc' := 61) rfl rfl ?_
        refine r_istore (pc' := 63) (ls' := [some (.inr (.inr 232)), some (.inl f), some (.inl k), some (.inl ((S 233 (1 + f)) + 1)), some (.inl 1)]) rfl rfl rfl rfl ?_
        refine r_iload (pc' := 65) rfl rfl rfl ?_
        refine r_if_eq0 (pc' := 68) rfl rfl (by decide) (by decide) ?_
        refine r_iload (pc' := 69) rfl rfl rfl ?_
        refine r_const (pc' := 70) rfl rfl ?_
        refine r_isub (pc' := 71) rfl rfl ?_
        refine r_const (pc' := 73) rfl rfl ?_
        refine q_callE (pc' := 76) (w := some (.inl (mins (((S 233 (1 + f)) + 1) - 1) (8 : Int)))) (S2 := S) (st' := [.inl (mins (((S 233 (1 + f)) + 1) - 1) (8 : Int))]) rfl rfl rfl (c_X11_minutesOf (k := (((S 233 (1 + f)) + 1) - 1)) (n := 8) (S := S)  (show -2147483648 ≤ (((S 233 (1 + f)) + 1) - 1) ∧ (((S 233 (1 + f)) + 1) - 1) < 2147483648 from by omega) (show 0 ≤ (8 : Int) ∧ (8 : Int) < 1000 from by omega)) (by decide) rfl rfl (Nat.le_of_ble_eq_true rfl) (fun q => absurd rfl q) rfl rfl ?_
        have b6 : 0 ≤ (mins (((S 233 (1 + f)) + 1) - 1) (8 : Int)) ∧ (mins (((S 233 (1 + f)) + 1) - 1) (8 : Int)) ≤ 4 * (8 : Int) + 2 := mins_r (by omega)
        refine r_goto (pc' := 81) rfl rfl ?_
        refine q_iret rfl rfl rfl ?_
        exact ⟨by unfold v_X11_as; rw [if_pos h2, if_pos h3, if_pos h5], rfl⟩
      · refine r_if_eq0 (pc' := 41) rfl rfl (by omega) (by omega) ?_
        refine r_iload (pc' := 42) rfl rfl rfl ?_
        refine r_iload (pc' := 43) rfl rfl rfl ?_
        by_cases h7 : k = ((S 233 (1 + f)) + 1)
        · refine r_icmp_eq1 (pc' := 56) rfl rfl (by omega) (by omega) ?_
          refine r_const (pc' := 57) rfl rfl ?_
          refine r_goto (pc' := 61) rfl rfl ?_
          refine r_istore (pc' := 63) (ls' := [some (.inr (.inr 232)), some (.inl f), some (.inl k), some (.inl ((S 233 (1 + f)) + 1)), some (.inl 1)]) rfl rfl rfl rfl ?_
          refine r_iload (pc' := 65) rfl rfl rfl ?_
          refine r_if_eq0 (pc' := 68) rfl rfl (by decide) (by decide) ?_
          refine r_iload (pc' := 69) rfl rfl rfl ?_
          refine r_const (pc' := 70) rfl rfl ?_
          refine r_isub (pc' := 71) rfl rfl ?_
          refine r_const (pc' := 73) rfl rfl ?_
          refine q_callE (pc' := 76) (w := some (.inl (mins (((S 233 (1 + f)) + 1) - 1) (8 : Int)))) (S2 := S) (st' := [.inl (mins (((S 233 (1 + f)) + 1) - 1) (8 : Int))]) rfl rfl rfl (c_X11_minutesOf (k := (((S 233 (1 + f)) + 1) - 1)) (n := 8) (S := S)  (show -2147483648 ≤ (((S 233 (1 + f)) + 1) - 1) ∧ (((S 233 (1 + f)) + 1) - 1) < 2147483648 from by omega) (show 0 ≤ (8 : Int) ∧ (8 : Int) < 1000 from by omega)) (by decide) rfl rfl (Nat.le_of_ble_eq_true rfl) (fun q => absurd rfl q) rfl rfl ?_
          have b8 : 0 ≤ (mins (((S 233 (1 + f)) + 1) - 1) (8 : Int)) ∧ (mins (((S 233 (1 + f)) + 1) - 1) (8 : Int)) ≤ 4 * (8 : Int) + 2 := mins_r (by omega)
          refine r_goto (pc' := 81) rfl rfl ?_
          refine q_iret rfl rfl rfl ?_
          exact ⟨by unfold v_X11_as; rw [if_pos h2, if_pos h3, if_neg h5, if_pos h7], rfl⟩
        · refine r_icmp_eq0 (pc' := 46) rfl rfl (by omega) (by omega) ?_
          refine r_iload (pc' := 47) rfl rfl rfl ?_
          refine r_const (pc' := 48) rfl rfl ?_
          by_cases h9 : k = 1
          · refine r_icmp_ne0 (pc' := 51) rfl rfl (by omega) (by omega) ?_
            refine r_iload (pc' := 52) rfl rfl rfl ?_
            refine r_const (pc' := 53) rfl rfl ?_
            by_cases h10 : ((S 233 (1 + f)) + 1) < 4
            · refine r_icmp_ge0 (pc' := 56) rfl rfl (by omega) (by omega) ?_
              refine r_const (pc' := 57) rfl rfl ?_
              refine r_goto (pc' := 61) rfl rfl ?_
              refine r_istore (pc' := 63) (ls' := [some (.inr (.inr 232)), some (.inl f), some (.inl k), some (.inl ((S 233 (1 + f)) + 1)), some (.inl 1)]) rfl rfl rfl rfl ?_
              refine r_iload (pc' := 65) rfl rfl rfl ?_
              refine r_if_eq0 (pc' := 68) rfl rfl (by decide) (by decide) ?_
              refine r_iload (pc' := 69) rfl rfl rfl ?_
              refine r_const (pc' := 70) rfl rfl ?_
              refine r_isub (pc' := 71) rfl rfl ?_
              refine r_const (pc' := 73) rfl rfl ?_
              refine q_callE (pc' := 76) (w := some (.inl (mins (((S 233 (1 + f)) + 1) - 1) (8 : Int)))) (S2 := S) (st' := [.inl (mins (((S 233 (1 + f)) + 1) - 1) (8 : Int))]) rfl rfl rfl (c_X11_minutesOf (k := (((S 233 (1 + f)) + 1) - 1)) (n := 8) (S := S)  (show -2147483648 ≤ (((S 233 (1 + f)) + 1) - 1) ∧ (((S 233 (1 + f)) + 1) - 1) < 2147483648 from by omega) (show 0 ≤ (8 : Int) ∧ (8 : Int) < 1000 from by omega)) (by decide) rfl rfl (Nat.le_of_ble_eq_true rfl) (fun q => absurd rfl q) rfl rfl ?_
              have b11 : 0 ≤ (mins (((S 233 (1 + f)) + 1) - 1) (8 : Int)) ∧ (mins (((S 233 (1 + f)) + 1) - 1) (8 : Int)) ≤ 4 * (8 : Int) + 2 := mins_r (by omega)
              refine r_goto (pc' := 81) rfl rfl ?_
              refine q_iret rfl rfl rfl ?_
              exact ⟨by unfold v_X11_as; rw [if_pos h2, if_pos h3, if_neg h5, if_neg h7, if_pos h9, if_pos h10], rfl⟩
            · refine r_icmp_ge1 (pc' := 60) rfl rfl (by omega) (by omega) ?_
              refine r_const (pc' := 61) rfl rfl ?_
              refine r_istore (pc' := 63) (ls' := [some (.inr (.inr 232)), some (.inl f), some (.inl k), some (.inl ((S 233 (1 + f)) + 1)), some (.inl 0)]) rfl rfl rfl rfl ?_
              refine r_iload (pc' := 65) rfl rfl rfl ?_
              refine r_if_eq1 (pc' := 79) rfl rfl (by decide) (by decide) ?_
              refine r_const (pc' := 81) rfl rfl ?_
              refine q_iret rfl rfl rfl ?_
              exact ⟨by unfold v_X11_as; rw [if_pos h2, if_pos h3, if_neg h5, if_neg h7, if_pos h9, if_neg h10], rfl⟩
          · refine r_icmp_ne1 (pc' := 60) rfl rfl (by omega) (by omega) ?_
            refine r_const (pc' := 61) rfl rfl ?_
            refine r_istore (pc' := 63) (ls' := [some (.inr (.inr 232)), some (.inl f), some (.inl k), some (.inl ((S 233 (1 + f)) + 1)), some (.inl 0)]) rfl rfl rfl rfl ?_
            refine r_iload (pc' := 65) rfl rfl rfl ?_
            refine r_if_eq1 (pc' := 79) rfl rfl (by decide) (by decide) ?_
            refine r_const (pc' := 81) rfl rfl ?_
            refine q_iret rfl rfl rfl ?_
            exact ⟨by unfold v_X11_as; rw [if_pos h2, if_pos h3, if_neg h5, if_neg h7, if_neg h9], rfl⟩
    · skip
      refine q_callE (pc' := 20) (w := some (.inl 0)) (S2 := S) (st' := [.inl 0]) rfl rfl rfl (bi_neg h3 (c_X11_in (a := k) (b := 0) (c := 4) (S := S)  (show -2147483648 ≤ k ∧ k < 2147483648 from by omega) (show -2147483648 ≤ (0 : Int) ∧ (0 : Int) < 2147483648 from by omega) (show -2147483648 ≤ (4 : Int) ∧ (4 : Int) < 2147483648 from by omega))) (by decide) rfl rfl (Nat.le_of_ble_eq_true rfl) (fun q => absurd rfl q) rfl rfl ?_
      refine r_if_ne0 (pc' := 23) rfl rfl (by decide) (by decide) ?_
      refine r_const (pc' := 25) rfl rfl ?_
      refine q_iret rfl rfl rfl ?_
      exact ⟨by unfold v_X11_as; rw [if_pos h2, if_neg h3], rfl⟩
  · skip
    refine q_callE (pc' := 5) (w := some (.inl 0)) (S2 := S) (st' := [.inl 0]) rfl rfl rfl (bi_neg h2 (c_X11_isField (f := f) (S := S) hB (show -2147483648 ≤ f ∧ f < 2147483648 from by omega))) (by decide) rfl rfl (Nat.le_of_ble_eq_true rfl) (fun _ _ => ⟨_, _, rfl, rfl⟩) rfl rfl ?_
    refine r_if_ne0 (pc' := 8) rfl rfl (by decide) (by decide) ?_
    refine r_const (pc' := 10) rfl rfl ?_
    refine q_iret rfl rfl rfl ?_
    exact ⟨by unfold v_X11_as; rw [if_neg h2], rfl⟩
noncomputable def v_X11_far (S : rS) (f : Int) (g : Int) : Int := if 0 ≤ f ∧ f ≤ S 233 0 - 1 then if 0 ≤ g ∧ g ≤ S 233 0 - 1 then if (S 235 ((7 * f) + g)) < 1000000 then S 235 ((7 * f) + g) else (-1) else (-2) else (-2)
theorem c_X11_far {f : Int} {g : Int} {S : rS} (hB : Bd S) (h_f : -2147483648 ≤ f ∧ f < 2147483648) (h_g : -2147483648 ≤ g ∧ g < 2147483648) : CS 3 76 [.inr (.inr 232), .inl f, .inl g] S (fun r' S' => r' = some (.inl (v_X11_far S f g)) ∧ S' = S) := by
  refine RS.beg (ls := [some (.inr (.inr 232)), some (.inl f), some (.inl g), none]) rfl rfl rfl rfl rfl ?_
  have n0 : 0 ≤ S 233 0 ∧ S 233 0 ≤ 7 := hB 233 0
  refine r_aload (pc' := 1) rfl rfl rfl ?_
  refine r_iload (pc' := 2) rfl rfl rfl ?_
  have b1 : 0 ≤ S 233 0 ∧ S 233 0 ≤ 7 := hB 233 0
  by_cases h2 : 0 ≤ f ∧ f ≤ S 233 0 - 1
  · skip
    refine q_callE (pc' := 5) (w := some (.inl 1)) (S2 := S) (st' := [.inl 1]) rfl rfl rfl (bi_pos h2 (c_X11_isField (f := f) (S := S) hB (show -2147483648 ≤ f ∧ f < 2147483648 from by omega))) (by decide) rfl rfl (Nat.le_of_ble_eq_true rfl) (fun _ _ => ⟨_, _, rfl, rfl⟩) rfl rfl ?_
    refine r_if_eq0 (pc' := 8) rfl rfl (by decide) (by decide) ?_
    refine r_aload (pc' := 9) rfl rfl rfl ?_
    refine r_iload (pc' := 10) rfl rfl rfl ?_
    by_cases h3 : 0 ≤ g ∧ g ≤ S 233 0 - 1
    · skip
      refine q_callE (pc' := 13) (w := some (.inl 1)) (S2 := S) (st' := [.inl 1]) rfl rfl rfl (bi_pos h3 (c_X11_isField (f := g) (S := S) hB (show -2147483648 ≤ g ∧ g < 2147483648 from by omega))) (by decide) rfl rfl (Nat.le_of_ble_eq_true rfl) (fun _ _ => ⟨_, _, rfl, rfl⟩) rfl rfl ?_
      refine r_if_ne1 (pc' := 19) rfl rfl (by decide) (by decide) ?_
      refine r_aload (pc' := 20) rfl rfl rfl ?_
      refine r_getr (pc' := 23) (v := 235) rfl rfl rfl rfl rfl ?_
      refine r_const (pc' := 25) rfl rfl ?_
      refine r_iload (pc' := 26) rfl rfl rfl ?_
      refine r_imul (pc' := 27) rfl rfl ?_
      refine r_iload (pc' := 28) rfl rfl rfl ?_
      refine r_iadd (pc' := 29) rfl rfl ?_
      refine r_aldv (pc' := 30) (v := (S 235 ((7 * f) + g))) 49 rfl rfl rfl (by omega) rfl ?_
      have b4 : 0 ≤ S 235 ((7 * f) + g) ∧ S 235 ((7 * f) + g) ≤ 1000000 := hB 235 ((7 * f) + g)
      refine r_istore (pc' := 31) (ls' := [some (.inr (.inr 232)), some (.inl f), some (.inl g), some (.inl (S 235 ((7 * f) + g)))]) rfl rfl rfl rfl ?_
      refine r_iload (pc' := 32) rfl rfl rfl ?_
      refine r_const (pc' := 34) rfl rfl ?_
      by_cases h5 : (S 235 ((7 * f) + g)) < 1000000
      · refine r_icmp_ge0 (pc' := 37) rfl rfl (by omega) (by omega) ?_
        refine r_iload (pc' := 38) rfl rfl rfl ?_
        refine r_goto (pc' := 42) rfl rfl ?_
        refine q_iret rfl rfl rfl ?_
        exact ⟨by unfold v_X11_far; rw [if_pos h2, if_pos h3, if_pos h5], rfl⟩
      · refine r_icmp_ge1 (pc' := 41) rfl rfl (by omega) (by omega) ?_
        refine r_const (pc' := 42) rfl rfl ?_
        refine q_iret rfl rfl rfl ?_
        exact ⟨by unfold v_X11_far; rw [if_pos h2, if_pos h3, if_neg h5], rfl⟩
    · skip
      refine q_callE (pc' := 13) (w := some (.inl 0)) (S2 := S) (st' := [.inl 0]) rfl rfl rfl (bi_neg h3 (c_X11_isField (f := g) (S := S) hB (show -2147483648 ≤ g ∧ g < 2147483648 from by omega))) (by decide) rfl rfl (Nat.le_of_ble_eq_true rfl) (fun _ _ => ⟨_, _, rfl, rfl⟩) rfl rfl ?_
      refine r_if_ne0 (pc' := 16) rfl rfl (by decide) (by decide) ?_
      refine r_const (pc' := 18) rfl rfl ?_
      refine q_iret rfl rfl rfl ?_
      exact ⟨by unfold v_X11_far; rw [if_pos h2, if_neg h3], rfl⟩
  · skip
    refine q_callE (pc' := 5) (w := some (.inl 0)) (S2 := S) (st' := [.inl 0]) rfl rfl rfl (bi_neg h2 (c_X11_isField (f := f) (S := S) hB (show -2147483648 ≤ f ∧ f < 2147483648 from by omega))) (by decide) rfl rfl (Nat.le_of_ble_eq_true rfl) (fun _ _ => ⟨_, _, rfl, rfl⟩) rfl rfl ?_
    refine r_if_eq1 (pc' := 16) rfl rfl (by decide) (by decide) ?_
    refine r_const (pc' := 18) rfl rfl ?_
    refine q_iret rfl rfl rfl ?_
    exact ⟨by unfold v_X11_far; rw [if_neg h2], rfl⟩
theorem c_X11_shelves {S : rS} (hB : Bd S) : CS 1 124 [.inr (.inr 232)] S (fun r' S' => r' = some (.inl (sm (fun kk => if S 243 kk < 0 then 0 else 1) 4)) ∧ S' = S) := by
  refine RS.beg (ls := [some (.inr (.inr 232)), none, none]) rfl rfl rfl rfl rfl ?_
  refine r_const (pc' := 1) rfl rfl ?_
  refine r_istore (pc' := 2) (ls' := [some (.inr (.inr 232)), some (.inl 0), none]) rfl rfl rfl rfl ?_
  refine r_const (pc' := 3) rfl rfl ?_
  refine r_istore (pc' := 4) (ls' := [some (.inr (.inr 232)), some (.inl 0), some (.inl 0)]) rfl rfl rfl rfl ?_
  refine r_while (α := Int × Int) (fun z' => [some (.inr (.inr 232)), some (.inl z'.2), some (.inl z'.1)]) (fun z' => S) (fun z' => (0 ≤ z'.1 ∧ z'.1 ≤ 4) ∧ (z'.2 = sm (fun kk => if S 243 kk < 0 then 0 else 1) z'.1)) (fun z' => (4 - z'.1).toNat) ?_ (0, 0) (show (0 ≤ (0 : Int) ∧ (0 : Int) ≤ 4) ∧ ((0 : Int) = sm (fun kk => if S 243 kk < 0 then 0 else 1) (0 : Int)) from by exact ⟨by omega, rfl⟩)
  rintro ⟨f, s⟩ hI' ih4
  have hI' : (0 ≤ f ∧ f ≤ 4) ∧ (s = sm (fun kk => if S 243 kk < 0 then 0 else 1) f) := hI'
  obtain ⟨i1, i2⟩ := hI'
  show RS _ _ _ _ [some (.inr (.inr 232)), some (.inl s), some (.inl f)] [] S
  refine r_iload (pc' := 5) rfl rfl rfl ?_
  refine r_const (pc' := 6) rfl rfl ?_
  by_cases h1 : f < 4
  · refine r_icmp_ge0 (pc' := 9) rfl rfl (by omega) (by omega) ?_
    refine r_iload (pc' := 10) rfl rfl rfl ?_
    refine r_aload (pc' := 11) rfl rfl rfl ?_
    refine r_getr (pc' := 14) (v := 243) rfl rfl rfl rfl rfl ?_
    refine r_iload (pc' := 15) rfl rfl rfl ?_
    refine r_aldv (pc' := 16) (v := (S 243 f)) 4 rfl rfl rfl (by omega) rfl ?_
    have b2 : -1 ≤ S 243 f ∧ S 243 f ≤ 24 := hB 243 f
    by_cases h3 : (S 243 f) < 0
    · refine r_if_ge0 (pc' := 19) rfl rfl (by omega) (by omega) ?_
      refine r_const (pc' := 20) rfl rfl ?_
      refine r_goto (pc' := 24) rfl rfl ?_
      refine r_iadd (pc' := 25) rfl rfl ?_
      refine r_istore (pc' := 26) (ls' := [some (.inr (.inr 232)), some (.inl (s + 0)), some (.inl f)]) rfl rfl rfl rfl ?_
      refine r_iinc (pc' := 29) (ls' := [some (.inr (.inr 232)), some (.inl (s + 0)), some (.inl (f + 1))]) rfl rfl rfl rfl rfl ?_
      refine r_goto (pc' := 4) rfl rfl ?_
      exact ih4 ((f + 1), (s + 0)) (show (0 ≤ (f + 1) ∧ (f + 1) ≤ 4) ∧ ((s + 0) = sm (fun kk => if S 243 kk < 0 then 0 else 1) (f + 1)) from by exact ⟨by omega, by rw [i2, sm_s (by omega), if_pos h3]⟩) (show (4 - (f + 1)).toNat < (4 - f).toNat from by omega)
    · refine r_if_ge1 (pc' := 23) rfl rfl (by omega) (by omega) ?_
      refine r_const (pc' := 24) rfl rfl ?_
      refine r_iadd (pc' := 25) rfl rfl ?_
      refine r_istore (pc' := 26) (ls' := [some (.inr (.inr 232)), some (.inl (s + 1)), some (.inl f)]) rfl rfl rfl rfl ?_
      refine r_iinc (pc' := 29) (ls' := [some (.inr (.inr 232)), some (.inl (s + 1)), some (.inl (f + 1))]) rfl rfl rfl rfl rfl ?_
      refine r_goto (pc' := 4) rfl rfl ?_
      exact ih4 ((f + 1), (s + 1)) (show (0 ≤ (f + 1) ∧ (f + 1) ≤ 4) ∧ ((s + 1) = sm (fun kk => if S 243 kk < 0 then 0 else 1) (f + 1)) from by exact ⟨by omega, by rw [i2, sm_s (by omega), if_neg h3]⟩) (show (4 - (f + 1)).toNat < (4 - f).toNat from by omega)
  · refine r_icmp_ge1 (pc' := 32) rfl rfl (by omega) (by omega) ?_
    refine r_iload (pc' := 33) rfl rfl rfl ?_
    refine q_iret rfl rfl rfl ?_
    obtain rfl : f = 4 := by omega
    exact ⟨by rw [i2], rfl⟩
noncomputable def v_X11_count (S : rS) (k : Int) : Int := if k = 0 then S 233 0 else if k = 1 then S 233 85 else if k = 2 then S 233 113 else if k = 3 then S 233 186 else if k = 4 then S 236 8 else if k = 5 then S 236 7 else if k = 6 then if (S 233 0) = 0 then (-1) else S 236 11 else if k = 7 then S 236 9 else if k = 8 then S 236 10 else if k = 9 then sm (fun kk => pop (S 236 (0 + kk))) 7 else if k = 10 then S 232 11 else if k = 11 then sm (fun kk => if S 243 kk < 0 then 0 else 1) 4 else if k = 12 then S 232 5 else if k = 13 then S 232 9 else (-3)
theorem c_X11_count {k : Int} {S : rS} (hB : Bd S) (h_k : -2147483648 ≤ k ∧ k < 2147483648) : CS 3 71 [.inr (.inr 232), .inl k] S (fun r' S' => r' = some (.inl (v_X11_count S k)) ∧ S' = S) := by
  refine RS.beg (ls := [some (.inr (.inr 232)), some (.inl k)]) rfl rfl rfl rfl rfl ?_
  refine r_iload (pc' := 1) rfl rfl rfl ?_
  by_cases h1 : k = 0
  · refine r_tsw (pc' := 72) 0 rfl rfl rfl (by omega) (by omega) ?_
    refine r_aload (pc' := 73) rfl rfl rfl ?_
    refine r_getr (pc' := 76) (v := 233) rfl rfl rfl rfl rfl ?_
    refine r_const (pc' := 77) rfl rfl ?_
    refine r_aldv (pc' := 78) (v := (S 233 0)) 187 rfl rfl rfl (by omega) rfl ?_
    have b2 : 0 ≤ S 233 0 ∧ S 233 0 ≤ 7 := hB 233 0
    refine q_iret rfl rfl rfl ?_
    exact ⟨by unfold v_X11_count; rw [if_pos h1], rfl⟩
  by_cases h3 : k = 1
  · refine r_tsw (pc' := 79) 1 rfl rfl rfl (by omega) (by omega) ?_
    refine r_aload (pc' := 80) rfl rfl rfl ?_
    refine r_getr (pc' := 83) (v := 233) rfl rfl rfl rfl rfl ?_
    refine r_const (pc' := 85) rfl rfl ?_
    refine r_aldv (pc' := 86) (v := (S 233 85)) 187 rfl rfl rfl (by omega) rfl ?_
    have b4 : 0 ≤ S 233 85 ∧ S 233 85 ≤ 9 := hB 233 85
    refine q_iret rfl rfl rfl ?_
    exact ⟨by unfold v_X11_count; rw [if_neg h1, if_pos h3], rfl⟩
  by_cases h5 : k = 2
  · refine r_tsw (pc' := 87) 2 rfl rfl rfl (by omega) (by omega) ?_
    refine r_aload (pc' := 88) rfl rfl rfl ?_
    refine r_getr (pc' := 91) (v := 233) rfl rfl rfl rfl rfl ?_
    refine r_const (pc' := 93) rfl rfl ?_
    refine r_aldv (pc' := 94) (v := (S 233 113)) 187 rfl rfl rfl (by omega) rfl ?_
    have b6 : 0 ≤ S 233 113 ∧ S 233 113 ≤ 8 := hB 233 113
    refine q_iret rfl rfl rfl ?_
    exact ⟨by unfold v_X11_count; rw [if_neg h1, if_neg h3, if_pos h5], rfl⟩
  by_cases h7 : k = 3
  · refine r_tsw (pc' := 95) 3 rfl rfl rfl (by omega) (by omega) ?_
    refine r_aload (pc' := 96) rfl rfl rfl ?_
    refine r_getr (pc' := 99) (v := 233) rfl rfl rfl rfl rfl ?_
    refine r_const (pc' := 102) rfl rfl ?_
    refine r_aldv (pc' := 103) (v := (S 233 186)) 187 rfl rfl rfl (by omega) rfl ?_
    have b8 : 0 ≤ S 233 186 ∧ S 233 186 ≤ 99 := hB 233 186
    refine q_iret rfl rfl rfl ?_
    exact ⟨by unfold v_X11_count; rw [if_neg h1, if_neg h3, if_neg h5, if_pos h7], rfl⟩
  by_cases h9 : k = 4
  · refine r_tsw (pc' := 104) 4 rfl rfl rfl (by omega) (by omega) ?_
    refine r_aload (pc' := 105) rfl rfl rfl ?_
    refine r_getr (pc' := 108) (v := 236) rfl rfl rfl rfl rfl ?_
    refine r_const (pc' := 110) rfl rfl ?_
    refine r_aldv (pc' := 111) (v := (S 236 8)) 12 rfl rfl rfl (by omega) rfl ?_
    have b10 : 0 ≤ S 236 8 ∧ S 236 8 ≤ 999 := hB 236 8
    refine q_iret rfl rfl rfl ?_
    exact ⟨by unfold v_X11_count; rw [if_neg h1, if_neg h3, if_neg h5, if_neg h7, if_pos h9], rfl⟩
  by_cases h11 : k = 5
  · refine r_tsw (pc' := 112) 5 rfl rfl rfl (by omega) (by omega) ?_
    refine r_aload (pc' := 113) rfl rfl rfl ?_
    refine r_getr (pc' := 116) (v := 236) rfl rfl rfl rfl rfl ?_
    refine r_const (pc' := 118) rfl rfl ?_
    refine r_aldv (pc' := 119) (v := (S 236 7)) 12 rfl rfl rfl (by omega) rfl ?_
    have b12 : 0 ≤ S 236 7 ∧ S 236 7 ≤ 99 := hB 236 7
    refine q_iret rfl rfl rfl ?_
    exact ⟨by unfold v_X11_count; rw [if_neg h1, if_neg h3, if_neg h5, if_neg h7, if_neg h9, if_pos h11], rfl⟩
  by_cases h13 : k = 6
  · refine r_tsw (pc' := 120) 6 rfl rfl rfl (by omega) (by omega) ?_
    refine r_aload (pc' := 121) rfl rfl rfl ?_
    refine r_getr (pc' := 124) (v := 233) rfl rfl rfl rfl rfl ?_
    refine r_const (pc' := 125) rfl rfl ?_
    refine r_aldv (pc' := 126) (v := (S 233 0)) 187 rfl rfl rfl (by omega) rfl ?_
    have b14 : 0 ≤ S 233 0 ∧ S 233 0 ≤ 7 := hB 233 0
    by_cases h15 : (S 233 0) = 0
    · refine r_if_ne0 (pc' := 129) rfl rfl (by omega) (by omega) ?_
      refine r_const (pc' := 130) rfl rfl ?_
      refine r_goto (pc' := 140) rfl rfl ?_
      refine q_iret rfl rfl rfl ?_
      exact ⟨by unfold v_X11_count; rw [if_neg h1, if_neg h3, if_neg h5, if_neg h7, if_neg h9, if_neg h11, if_pos h13, if_pos h15], rfl⟩
    · refine r_if_ne1 (pc' := 133) rfl rfl (by omega) (by omega) ?_
      refine r_aload (pc' := 134) rfl rfl rfl ?_
      refine r_getr (pc' := 137) (v := 236) rfl rfl rfl rfl rfl ?_
      refine r_const (pc' := 139) rfl rfl ?_
      refine r_aldv (pc' := 140) (v := (S 236 11)) 12 rfl rfl rfl (by omega) rfl ?_
      have b16 : 0 ≤ S 236 11 ∧ S 236 11 ≤ 6 := hB 236 11
      refine q_iret rfl rfl rfl ?_
      exact ⟨by unfold v_X11_count; rw [if_neg h1, if_neg h3, if_neg h5, if_neg h7, if_neg h9, if_neg h11, if_pos h13, if_neg h15], rfl⟩
  by_cases h17 : k = 7
  · refine r_tsw (pc' := 141) 7 rfl rfl rfl (by omega) (by omega) ?_
    refine r_aload (pc' := 142) rfl rfl rfl ?_
    refine r_getr (pc' := 145) (v := 236) rfl rfl rfl rfl rfl ?_
    refine r_const (pc' := 147) rfl rfl ?_
    refine r_aldv (pc' := 148) (v := (S 236 9)) 12 rfl rfl rfl (by omega) rfl ?_
    have b18 : 0 ≤ S 236 9 ∧ S 236 9 ≤ 127 := hB 236 9
    refine q_iret rfl rfl rfl ?_
    exact ⟨by unfold v_X11_count; rw [if_neg h1, if_neg h3, if_neg h5, if_neg h7, if_neg h9, if_neg h11, if_neg h13, if_pos h17], rfl⟩
  by_cases h19 : k = 8
  · refine r_tsw (pc' := 149) 8 rfl rfl rfl (by omega) (by omega) ?_
    refine r_aload (pc' := 150) rfl rfl rfl ?_
    refine r_getr (pc' := 153) (v := 236) rfl rfl rfl rfl rfl ?_
    refine r_const (pc' := 155) rfl rfl ?_
    refine r_aldv (pc' := 156) (v := (S 236 10)) 12 rfl rfl rfl (by omega) rfl ?_
    have b20 : 0 ≤ S 236 10 ∧ S 236 10 ≤ 9 := hB 236 10
    refine q_iret rfl rfl rfl ?_
    exact ⟨by unfold v_X11_count; rw [if_neg h1, if_neg h3, if_neg h5, if_neg h7, if_neg h9, if_neg h11, if_neg h13, if_neg h17, if_pos h19], rfl⟩
  by_cases h21 : k = 9
  · refine r_tsw (pc' := 157) 9 rfl rfl rfl (by omega) (by omega) ?_
    refine r_aload (pc' := 158) rfl rfl rfl ?_
    refine q_callE (pc' := 161) (w := some (.inl (sm (fun kk => pop (S 236 (0 + kk))) 7))) (S2 := S) (st' := [.inl (sm (fun kk => pop (S 236 (0 + kk))) 7)]) rfl rfl rfl (c_X11_leftInAll  (S := S) hB ) (by decide) rfl rfl (Nat.le_of_ble_eq_true rfl) (fun _ _ => ⟨_, _, rfl, rfl⟩) rfl rfl ?_
    have b22 : 0 ≤ (sm (fun kk => pop (S 236 (0 + kk))) 7) ∧ (sm (fun kk => pop (S 236 (0 + kk))) 7) ≤ 63 := lf63
    refine q_iret rfl rfl rfl ?_
    exact ⟨by unfold v_X11_count; rw [if_neg h1, if_neg h3, if_neg h5, if_neg h7, if_neg h9, if_neg h11, if_neg h13, if_neg h17, if_neg h19, if_pos h21], rfl⟩
  by_cases h23 : k = 10
  · refine r_tsw (pc' := 162) 10 rfl rfl rfl (by omega) (by omega) ?_
    refine r_aload (pc' := 163) rfl rfl rfl ?_
    refine r_getv (pc' := 166) (v := (S 232 11)) rfl rfl (Or.inl rfl) rfl rfl ?_
    have b24 : 0 ≤ S 232 11 ∧ S 232 11 ≤ 6 := hB 232 11
    refine q_iret rfl rfl rfl ?_
    exact ⟨by unfold v_X11_count; rw [if_neg h1, if_neg h3, if_neg h5, if_neg h7, if_neg h9, if_neg h11, if_neg h13, if_neg h17, if_neg h19, if_neg h21, if_pos h23], rfl⟩
  by_cases h25 : k = 11
  · refine r_tsw (pc' := 167) 11 rfl rfl rfl (by omega) (by omega) ?_
    refine r_aload (pc' := 168) rfl rfl rfl ?_
    refine q_callE (pc' := 171) (w := some (.inl (sm (fun kk => if S 243 kk < 0 then 0 else 1) 4))) (S2 := S) (st' := [.inl (sm (fun kk => if S 243 kk < 0 then 0 else 1) 4)]) rfl rfl rfl (c_X11_shelves  (S := S) hB ) (by decide) rfl rfl (Nat.le_of_ble_eq_true rfl) (fun _ _ => ⟨_, _, rfl, rfl⟩) rfl rfl ?_
    refine q_iret rfl rfl rfl ?_
    exact ⟨by unfold v_X11_count; rw [if_neg h1, if_neg h3, if_neg h5, if_neg h7, if_neg h9, if_neg h11, if_neg h13, if_neg h17, if_neg h19, if_neg h21, if_neg h23, if_pos h25], rfl⟩
  by_cases h26 : k = 12
  · refine r_tsw (pc' := 172) 12 rfl rfl rfl (by omega) (by omega) ?_
    refine r_aload (pc' := 173) rfl rfl rfl ?_
    refine r_getv (pc' := 176) (v := (S 232 5)) rfl rfl (Or.inl rfl) rfl rfl ?_
    have b27 : 0 ≤ S 232 5 ∧ S 232 5 ≤ 8 := hB 232 5
    refine q_iret rfl rfl rfl ?_
    exact ⟨by unfold v_X11_count; rw [if_neg h1, if_neg h3, if_neg h5, if_neg h7, if_neg h9, if_neg h11, if_neg h13, if_neg h17, if_neg h19, if_neg h21, if_neg h23, if_neg h25, if_pos h26], rfl⟩
  by_cases h28 : k = 13
  · refine r_tsw (pc' := 177) 13 rfl rfl rfl (by omega) (by omega) ?_
    refine r_aload (pc' := 178) rfl rfl rfl ?_
    refine r_getv (pc' := 181) (v := (S 232 9)) rfl rfl (Or.inl rfl) rfl rfl ?_
    have b29 : 0 ≤ S 232 9 ∧ S 232 9 ≤ 200 := hB 232 9
    refine q_iret rfl rfl rfl ?_
    exact ⟨by unfold v_X11_count; rw [if_neg h1, if_neg h3, if_neg h5, if_neg h7, if_neg h9, if_neg h11, if_neg h13, if_neg h17, if_neg h19, if_neg h21, if_neg h23, if_neg h25, if_neg h26, if_pos h28], rfl⟩
  refine r_tswd (pc' := 182) rfl rfl (by omega) (by omega) ?_
  refine r_const (pc' := 184) rfl rfl ?_
  refine q_iret rfl rfl rfl ?_
  exact ⟨by unfold v_X11_count; rw [if_neg h1, if_neg h3, if_neg h5, if_neg h7, if_neg h9, if_neg h11, if_neg h13, if_neg h17, if_neg h19, if_neg h21, if_neg h23, if_neg h25, if_neg h26, if_neg h28], rfl⟩
noncomputable def v_X11_look (S : rS) (s : Int) (i : Int) : Int := if 0 ≤ s ∧ s ≤ 3 then if (S 243 s) < 0 then (-11) else if (0 : Int) ≤ i ∧ i ≤ ((S 243 s) - 1) then (S 244 ((24 * s) + i)) + 10000000000 else (-13) else (-2)
theorem c_X11_look {s : Int} {i : Int} {S : rS} (hB : Bd S) (h_s : -2147483648 ≤ s ∧ s < 2147483648) (h_i : -2147483648 ≤ i ∧ i < 2147483648) : CS 3 101 [.inr (.inr 232), .inl s, .inl i] S (fun r' S' => r' = some (.inr (.inl (v_X11_look S s i))) ∧ S' = S) := by
  refine RS.beg (ls := [some (.inr (.inr 232)), some (.inl s), some (.inl i)]) rfl rfl rfl rfl rfl ?_
  refine r_iload (pc' := 1) rfl rfl rfl ?_
  by_cases h1 : 0 ≤ s ∧ s ≤ 3
  · skip
    refine q_callE (pc' := 4) (w := some (.inl 1)) (S2 := S) (st' := [.inl 1]) rfl rfl rfl (bi_pos h1 (c_X11_isShelf (k := s) (S := S)  (show -2147483648 ≤ s ∧ s < 2147483648 from by omega))) (by decide) rfl rfl (Nat.le_of_ble_eq_true rfl) (fun q => absurd rfl q) rfl rfl ?_
    refine r_if_ne1 (pc' := 11) rfl rfl (by decide) (by decide) ?_
    refine r_aload (pc' := 12) rfl rfl rfl ?_
    refine r_getr (pc' := 15) (v := 243) rfl rfl rfl rfl rfl ?_
    refine r_iload (pc' := 16) rfl rfl rfl ?_
    refine r_aldv (pc' := 17) (v := (S 243 s)) 4 rfl rfl rfl (by omega) rfl ?_
    have b2 : -1 ≤ S 243 s ∧ S 243 s ≤ 24 := hB 243 s
    by_cases h3 : (S 243 s) < 0
    · refine r_if_ge0 (pc' := 20) rfl rfl (by omega) (by omega) ?_
      refine r_lcon (pc' := 23) rfl rfl ?_
      refine q_lret rfl rfl rfl ?_
      exact ⟨by unfold v_X11_look; rw [if_pos h1, if_pos h3], rfl⟩
    · refine r_if_ge1 (pc' := 24) rfl rfl (by omega) (by omega) ?_
      refine r_iload (pc' := 25) rfl rfl rfl ?_
      refine r_i2l (pc' := 26) rfl rfl (by omega) ?_
      refine r_lcon (pc' := 27) rfl rfl ?_
      refine r_aload (pc' := 28) rfl rfl rfl ?_
      refine r_getr (pc' := 31) (v := 243) rfl rfl rfl rfl rfl ?_
      refine r_iload (pc' := 32) rfl rfl rfl ?_
      refine r_aldv (pc' := 33) (v := (S 243 s)) 4 rfl rfl rfl (by omega) rfl ?_
      refine r_const (pc' := 34) rfl rfl ?_
      refine r_isub (pc' := 35) rfl rfl ?_
      refine r_i2l (pc' := 36) rfl rfl (by omega) ?_
      by_cases h4 : (0 : Int) ≤ i ∧ i ≤ ((S 243 s) - 1)
      · skip
        refine q_callE (pc' := 39) (w := some (.inl 1)) (S2 := S) (st' := [.inl 1]) rfl rfl rfl (bi_pos h4 (c_X11_in (a := i) (b := 0) (c := ((S 243 s) - 1)) (S := S)  (show -2147483648 ≤ i ∧ i < 2147483648 from by omega) (show -2147483648 ≤ (0 : Int) ∧ (0 : Int) < 2147483648 from by omega) (show -2147483648 ≤ ((S 243 s) - 1) ∧ ((S 243 s) - 1) < 2147483648 from by omega))) (by decide) rfl rfl (Nat.le_of_ble_eq_true rfl) (fun q => absurd rfl q) rfl rfl ?_
        refine r_if_eq0 (pc' := 42) rfl rfl (by decide) (by decide) ?_
        refine r_aload (pc' := 43) rfl rfl rfl ?_
        refine r_getr (pc' := 46) (v := 244) rfl rfl rfl rfl rfl ?_
        refine r_const (pc' := 48) rfl rfl ?_
        refine r_iload (pc' := 49) rfl rfl rfl ?_
        refine r_imul (pc' := 50) rfl rfl ?_
        refine r_iload (pc' := 51) rfl rfl rfl ?_
        refine r_iadd (pc' := 52) rfl rfl ?_
        refine r_aldv (pc' := 53) (v := (S 244 ((24 * s) + i))) 96 rfl rfl rfl (by omega) rfl ?_
        have b5 : -2147483648 ≤ S 244 ((24 * s) + i) ∧ S 244 ((24 * s) + i) ≤ 2147483647 := hB 244 ((24 * s) + i)
        refine r_i2l (pc' := 54) rfl rfl (by omega) ?_
        refine r_lcon (pc' := 57) rfl rfl ?_
        refine r_ladd (pc' := 58) rfl rfl ?_
        refine r_goto (pc' := 64) rfl rfl ?_
        refine q_lret rfl rfl rfl ?_
        exact ⟨by unfold v_X11_look; rw [if_pos h1, if_neg h3, if_pos h4], rfl⟩
      · skip
        refine q_callE (pc' := 39) (w := some (.inl 0)) (S2 := S) (st' := [.inl 0]) rfl rfl rfl (bi_neg h4 (c_X11_in (a := i) (b := 0) (c := ((S 243 s) - 1)) (S := S)  (show -2147483648 ≤ i ∧ i < 2147483648 from by omega) (show -2147483648 ≤ (0 : Int) ∧ (0 : Int) < 2147483648 from by omega) (show -2147483648 ≤ ((S 243 s) - 1) ∧ ((S 243 s) - 1) < 2147483648 from by omega))) (by decide) rfl rfl (Nat.le_of_ble_eq_true rfl) (fun q => absurd rfl q) rfl rfl ?_
        refine r_if_eq1 (pc' := 61) rfl rfl (by decide) (by decide) ?_
        refine r_lcon (pc' := 64) rfl rfl ?_
        refine q_lret rfl rfl rfl ?_
        exact ⟨by unfold v_X11_look; rw [if_pos h1, if_neg h3, if_neg h4], rfl⟩
  · skip
    refine q_callE (pc' := 4) (w := some (.inl 0)) (S2 := S) (st' := [.inl 0]) rfl rfl rfl (bi_neg h1 (c_X11_isShelf (k := s) (S := S)  (show -2147483648 ≤ s ∧ s < 2147483648 from by omega))) (by decide) rfl rfl (Nat.le_of_ble_eq_true rfl) (fun q => absurd rfl q) rfl rfl ?_
    refine r_if_ne0 (pc' := 7) rfl rfl (by decide) (by decide) ?_
    refine r_lcon (pc' := 10) rfl rfl ?_
    refine q_lret rfl rfl rfl ?_
    exact ⟨by unfold v_X11_look; rw [if_neg h1], rfl⟩
theorem bdst_e {A : Int} (hA : A = 237 ∨ A = 238) {u k : Int} (hk : 0 ≤ k ∧ k < 12) : bd_lo A (12 * u + k) = bd_lo 236 k ∧ bd_hi A (12 * u + k) = bd_hi 236 k := by
  have e : (12 * u + k) % 12 = k := by omega
  rcases hA with rfl | rfl
  · constructor
    · show (if 0 ≤ (12 * u + k) % 12 ∧ (12 * u + k) % 12 ≤ 6 then (0 : Int) else _) = _; rw [e]; rfl
    · show (if 0 ≤ (12 * u + k) % 12 ∧ (12 * u + k) % 12 ≤ 6 then (255 : Int) else _) = _; rw [e]; rfl
  · constructor
    · show (if 0 ≤ (12 * u + k) % 12 ∧ (12 * u + k) % 12 ≤ 6 then (0 : Int) else _) = _; rw [e]; rfl
    · show (if 0 ≤ (12 * u + k) % 12 ∧ (12 * u + k) % 12 ≤ 6 then (255 : Int) else _) = _; rw [e]; rfl
theorem c_X11_copies_np {u : Int} {S : rS} (hB : Bd S) (h_u : 0 ≤ u ∧ u < 8) : CS 1 66 [.inr (.inr 236), .inl 0, .inr (.inr 237), .inl (12 * u), .inl 12] S (fun r' S' => r' = none ∧ S' = mx_cp S 236 0 237 (12 * u) 12) := by
  refine RS.beg (ls := [some (.inr (.inr 236)), some (.inl 0), some (.inr (.inr 237)), some (.inl (12 * u)), some (.inl 12), none]) rfl rfl rfl rfl rfl ?_
  refine r_const (pc' := 1) rfl rfl ?_
  refine r_istore (pc' := 3) (ls' := [some (.inr (.inr 236)), some (.inl 0), some (.inr (.inr 237)), some (.inl (12 * u)), some (.inl 12), some (.inl 0)]) rfl rfl rfl rfl ?_
  refine r_mem (show S = mx_cp S 236 0 237 (12 * u) (0 : Int) from by exact cp_0 _ _ _ _ _) ?_
  refine r_while (α := Int) (fun z' => [some (.inr (.inr 236)), some (.inl 0), some (.inr (.inr 237)), some (.inl (12 * u)), some (.inl 12), some (.inl z')]) (fun z' => mx_cp S 236 0 237 (12 * u) z') (fun z' => (0 ≤ z' ∧ z' ≤ 12)) (fun z' => (12 - z').toNat) ?_ 0 (show (0 ≤ (0 : Int) ∧ (0 : Int) ≤ 12) from by omega)
  rintro k hI' ih3
  have hI' : (0 ≤ k ∧ k ≤ 12) := hI'
  have i1 := hI'
  show RS _ _ _ _ [some (.inr (.inr 236)), some (.inl 0), some (.inr (.inr 237)), some (.inl (12 * u)), some (.inl 12), some (.inl k)] [] (mx_cp S 236 0 237 (12 * u) k)
  have hB1 : Bd (mx_cp S 236 0 237 (12 * u) k) := by exact Bd_cp hB (fun k _ _ => by have q := bdst_e (A := 237) (by omega) (u := u) (k := k) (by omega); rw [Int.zero_add]; omega)
  refine r_iload (pc' := 5) rfl rfl rfl ?_
  refine r_iload (pc' := 7) rfl rfl rfl ?_
  by_cases h2 : k < 12
  · refine r_icmp_ge0 (pc' := 10) rfl rfl (by omega) (by omega) ?_
    refine r_aload (pc' := 11) rfl rfl rfl ?_
    refine r_iload (pc' := 12) rfl rfl rfl ?_
    refine r_iload (pc' := 14) rfl rfl rfl ?_
    refine r_iadd (pc' := 15) rfl rfl ?_
    refine r_aload (pc' := 16) rfl rfl rfl ?_
    refine r_iload (pc' := 17) rfl rfl rfl ?_
    refine r_iload (pc' := 19) rfl rfl rfl ?_
    refine r_iadd (pc' := 20) rfl rfl ?_
    refine r_aldv (pc' := 21) (v := (S 236 (0 + k))) 12 rfl rfl rfl (by omega) (cp_o (by omega)) ?_
    have b3 := bdc_236_0 hB k
    refine r_ast (pc' := 22) 96 rfl rfl rfl (by omega) ?_
    refine r_iinc (pc' := 25) (ls' := [some (.inr (.inr 236)), some (.inl 0), some (.inr (.inr 237)), some (.inl (12 * u)), some (.inl 12), some (.inl (k + 1))]) rfl rfl rfl rfl rfl ?_
    refine r_goto (pc' := 3) rfl rfl ?_
    refine r_mem (show mx_up (mx_cp S 236 0 237 (12 * u) k) 237 ((12 * u) + k) (S 236 (0 + k)) = mx_cp S 236 0 237 (12 * u) (k + 1) from by exact cp_s (by omega) rfl (by omega) rfl) ?_
    exact ih3 (k + 1) (show (0 ≤ (k + 1) ∧ (k + 1) ≤ 12) from by omega) (show (12 - (k + 1)).toNat < (12 - k).toNat from by omega)
  · refine r_icmp_ge1 (pc' := 28) rfl rfl (by omega) (by omega) ?_
    refine q_vret rfl rfl rfl ?_
    obtain rfl : k = 12 := by omega
    exact ⟨rfl, rfl⟩
theorem c_X11_copies_pn {u : Int} {S : rS} (hB : Bd S) (h_u : 0 ≤ u ∧ u < 8) : CS 1 66 [.inr (.inr 237), .inl (12 * u), .inr (.inr 236), .inl 0, .inl 12] S (fun r' S' => r' = none ∧ S' = mx_cp S 237 (12 * u) 236 0 12) := by
  refine RS.beg (ls := [some (.inr (.inr 237)), some (.inl (12 * u)), some (.inr (.inr 236)), some (.inl 0), some (.inl 12), none]) rfl rfl rfl rfl rfl ?_
  refine r_const (pc' := 1) rfl rfl ?_
  refine r_istore (pc' := 3) (ls' := [some (.inr (.inr 237)), some (.inl (12 * u)), some (.inr (.inr 236)), some (.inl 0), some (.inl 12), some (.inl 0)]) rfl rfl rfl rfl ?_
  refine r_mem (show S = mx_cp S 237 (12 * u) 236 0 (0 : Int) from by exact cp_0 _ _ _ _ _) ?_
  refine r_while (α := Int) (fun z' => [some (.inr (.inr 237)), some (.inl (12 * u)), some (.inr (.inr 236)), some (.inl 0), some (.inl 12), some (.inl z')]) (fun z' => mx_cp S 237 (12 * u) 236 0 z') (fun z' => (0 ≤ z' ∧ z' ≤ 12)) (fun z' => (12 - z').toNat) ?_ 0 (show (0 ≤ (0 : Int) ∧ (0 : Int) ≤ 12) from by omega)
  rintro k hI' ih3
  have hI' : (0 ≤ k ∧ k ≤ 12) := hI'
  have i1 := hI'
  show RS _ _ _ _ [some (.inr (.inr 237)), some (.inl (12 * u)), some (.inr (.inr 236)), some (.inl 0), some (.inl 12), some (.inl k)] [] (mx_cp S 237 (12 * u) 236 0 k)
  have hB1 : Bd (mx_cp S 237 (12 * u) 236 0 k) := by exact Bd_cp hB (fun k _ _ => by have q := bdst_e (A := 237) (by omega) (u := u) (k := k) (by omega); rw [Int.zero_add]; omega)
  refine r_iload (pc' := 5) rfl rfl rfl ?_
  refine r_iload (pc' := 7) rfl rfl rfl ?_
  by_cases h2 : k < 12
  · refine r_icmp_ge0 (pc' := 10) rfl rfl (by omega) (by omega) ?_
    refine r_aload (pc' := 11) rfl rfl rfl ?_
    refine r_iload (pc' := 12) rfl rfl rfl ?_
    refine r_iload (pc' := 14) rfl rfl rfl ?_
    refine r_iadd (pc' := 15) rfl rfl ?_
    refine r_aload (pc' := 16) rfl rfl rfl ?_
    refine r_iload (pc' := 17) rfl rfl rfl ?_
    refine r_iload (pc' := 19) rfl rfl rfl ?_
    refine r_iadd (pc' := 20) rfl rfl ?_
    refine r_aldv (pc' := 21) (v := (S 237 ((12 * u) + k))) 96 rfl rfl rfl (by omega) (cp_o (by omega)) ?_
    refine r_ast (pc' := 22) 12 rfl rfl rfl (by omega) ?_
    refine r_iinc (pc' := 25) (ls' := [some (.inr (.inr 237)), some (.inl (12 * u)), some (.inr (.inr 236)), some (.inl 0), some (.inl 12), some (.inl (k + 1))]) rfl rfl rfl rfl rfl ?_
    refine r_goto (pc' := 3) rfl rfl ?_
    refine r_mem (show mx_up (mx_cp S 237 (12 * u) 236 0 k) 236 (0 + k) (S 237 ((12 * u) + k)) = mx_cp S 237 (12 * u) 236 0 (k + 1) from by exact cp_s (by omega) rfl (by omega) rfl) ?_
    exact ih3 (k + 1) (show (0 ≤ (k + 1) ∧ (k + 1) ≤ 12) from by omega) (show (12 - (k + 1)).toNat < (12 - k).toNat from by omega)
  · refine r_icmp_ge1 (pc' := 28) rfl rfl (by omega) (by omega) ?_
    refine q_vret rfl rfl rfl ?_
    obtain rfl : k = 12 := by omega
    exact ⟨rfl, rfl⟩
theorem c_X11_copies_nk {u : Int} {S : rS} (hB : Bd S) (h_u : 0 ≤ u ∧ u < 2) : CS 1 66 [.inr (.inr 236), .inl 0, .inr (.inr 238), .inl (12 * u), .inl 12] S (fun r' S' => r' = none ∧ S' = mx_cp S 236 0 238 (12 * u) 12) := by
  refine RS.beg (ls := [some (.inr (.inr 236)), some (.inl 0), some (.inr (.inr 238)), some (.inl (12 * u)), some (.inl 12), none]) rfl rfl rfl rfl rfl ?_
  refine r_const (pc' := 1) rfl rfl ?_
  refine r_istore (pc' := 3) (ls' := [some (.inr (.inr 236)), some (.inl 0), some (.inr (.inr 238)), some (.inl (12 * u)), some (.inl 12), some (.inl 0)]) rfl rfl rfl rfl ?_
  refine r_mem (show S = mx_cp S 236 0 238 (12 * u) (0 : Int) from by exact cp_0 _ _ _ _ _) ?_
  refine r_while (α := Int) (fun z' => [some (.inr (.inr 236)), some (.inl 0), some (.inr (.inr 238)), some (.inl (12 * u)), some (.inl 12), some (.inl z')]) (fun z' => mx_cp S 236 0 238 (12 * u) z') (fun z' => (0 ≤ z' ∧ z' ≤ 12)) (fun z' => (12 - z').toNat) ?_ 0 (show (0 ≤ (0 : Int) ∧ (0 : Int) ≤ 12) from by omega)
  rintro k hI' ih3
  have hI' : (0 ≤ k ∧ k ≤ 12) := hI'
  have i1 := hI'
  show RS _ _ _ _ [some (.inr (.inr 236)), some (.inl 0), some (.inr (.inr 238)), some (.inl (12 * u)), some (.inl 12), some (.inl k)] [] (mx_cp S 236 0 238 (12 * u) k)
  have hB1 : Bd (mx_cp S 236 0 238 (12 * u) k) := by exact Bd_cp hB (fun k _ _ => by have q := bdst_e (A := 238) (by omega) (u := u) (k := k) (by omega); rw [Int.zero_add]; omega)
  refine r_iload (pc' := 5) rfl rfl rfl ?_
  refine r_iload (pc' := 7) rfl rfl rfl ?_
  by_cases h2 : k < 12
  · refine r_icmp_ge0 (pc' := 10) rfl rfl (by omega) (by omega) ?_
    refine r_aload (pc' := 11) rfl rfl rfl ?_
    refine r_iload (pc' := 12) rfl rfl rfl ?_
    refine r_iload (pc' := 14) rfl rfl rfl ?_
    refine r_iadd (pc' := 15) rfl rfl ?_
    refine r_aload (pc' := 16) rfl rfl rfl ?_
    refine r_iload (pc' := 17) rfl rfl rfl ?_
    refine r_iload (pc' := 19) rfl rfl rfl ?_
    refine r_iadd (pc' := 20) rfl rfl ?_
    refine r_aldv (pc' := 21) (v := (S 236 (0 + k))) 12 rfl rfl rfl (by omega) (cp_o (by omega)) ?_
    have b3 := bdc_236_0 hB k
    refine r_ast (pc' := 22) 24 rfl rfl rfl (by omega) ?_
    refine r_iinc (pc' := 25) (ls' := [some (.inr (.inr 236)), some (.inl 0), some (.inr (.inr 238)), some (.inl (12 * u)), some (.inl 12), some (.inl (k + 1))]) rfl rfl rfl rfl rfl ?_
    refine r_goto (pc' := 3) rfl rfl ?_
    refine r_mem (show mx_up (mx_cp S 236 0 238 (12 * u) k) 238 ((12 * u) + k) (S 236 (0 + k)) = mx_cp S 236 0 238 (12 * u) (k + 1) from by exact cp_s (by omega) rfl (by omega) rfl) ?_
    exact ih3 (k + 1) (show (0 ≤ (k + 1) ∧ (k + 1) ≤ 12) from by omega) (show (12 - (k + 1)).toNat < (12 - k).toNat from by omega)
  · refine r_icmp_ge1 (pc' := 28) rfl rfl (by omega) (by omega) ?_
    refine q_vret rfl rfl rfl ?_
    obtain rfl : k = 12 := by omega
    exact ⟨rfl, rfl⟩
theorem c_X11_copies_kn {u : Int} {S : rS} (hB : Bd S) (h_u : 0 ≤ u ∧ u < 2) : CS 1 66 [.inr (.inr 238), .inl (12 * u), .inr (.inr 236), .inl 0, .inl 12] S (fun r' S' => r' = none ∧ S' = mx_cp S 238 (12 * u) 236 0 12) := by
  refine RS.beg (ls := [some (.inr (.inr 238)), some (.inl (12 * u)), some (.inr (.inr 236)), some (.inl 0), some (.inl 12), none]) rfl rfl rfl rfl rfl ?_
  refine r_const (pc' := 1) rfl rfl ?_
  refine r_istore (pc' := 3) (ls' := [some (.inr (.inr 238)), some (.inl (12 * u)), some (.inr (.inr 236)), some (.inl 0), some (.inl 12), some (.inl 0)]) rfl rfl rfl rfl ?_
  refine r_mem (show S = mx_cp S 238 (12 * u) 236 0 (0 : Int) from by exact cp_0 _ _ _ _ _) ?_
  refine r_while (α := Int) (fun z' => [some (.inr (.inr 238)), some (.inl (12 * u)), some (.inr (.inr 236)), some (.inl 0), some (.inl 12), some (.inl z')]) (fun z' => mx_cp S 238 (12 * u) 236 0 z') (fun z' => (0 ≤ z' ∧ z' ≤ 12)) (fun z' => (12 - z').toNat) ?_ 0 (show (0 ≤ (0 : Int) ∧ (0 : Int) ≤ 12) from by omega)
  rintro k hI' ih3
  have hI' : (0 ≤ k ∧ k ≤ 12) := hI'
  have i1 := hI'
  show RS _ _ _ _ [some (.inr (.inr 238)), some (.inl (12 * u)), some (.inr (.inr 236)), some (.inl 0), some (.inl 12), some (.inl k)] [] (mx_cp S 238 (12 * u) 236 0 k)
  have hB1 : Bd (mx_cp S 238 (12 * u) 236 0 k) := by exact Bd_cp hB (fun k _ _ => by have q := bdst_e (A := 238) (by omega) (u := u) (k := k) (by omega); rw [Int.zero_add]; omega)
  refine r_iload (pc' := 5) rfl rfl rfl ?_
  refine r_iload (pc' := 7) rfl rfl rfl ?_
  by_cases h2 : k < 12
  · refine r_icmp_ge0 (pc' := 10) rfl rfl (by omega) (by omega) ?_
    refine r_aload (pc' := 11) rfl rfl rfl ?_
    refine r_iload (pc' := 12) rfl rfl rfl ?_
    refine r_iload (pc' := 14) rfl rfl rfl ?_
    refine r_iadd (pc' := 15) rfl rfl ?_
    refine r_aload (pc' := 16) rfl rfl rfl ?_
    refine r_iload (pc' := 17) rfl rfl rfl ?_
    refine r_iload (pc' := 19) rfl rfl rfl ?_
    refine r_iadd (pc' := 20) rfl rfl ?_
    refine r_aldv (pc' := 21) (v := (S 238 ((12 * u) + k))) 24 rfl rfl rfl (by omega) (cp_o (by omega)) ?_
    refine r_ast (pc' := 22) 12 rfl rfl rfl (by omega) ?_
    refine r_iinc (pc' := 25) (ls' := [some (.inr (.inr 238)), some (.inl (12 * u)), some (.inr (.inr 236)), some (.inl 0), some (.inl 12), some (.inl (k + 1))]) rfl rfl rfl rfl rfl ?_
    refine r_goto (pc' := 3) rfl rfl ?_
    refine r_mem (show mx_up (mx_cp S 238 (12 * u) 236 0 k) 236 (0 + k) (S 238 ((12 * u) + k)) = mx_cp S 238 (12 * u) 236 0 (k + 1) from by exact cp_s (by omega) rfl (by omega) rfl) ?_
    exact ih3 (k + 1) (show (0 ≤ (k + 1) ∧ (k + 1) ≤ 12) from by omega) (show (12 - (k + 1)).toNat < (12 - k).toNat from by omega)
  · refine r_icmp_ge1 (pc' := 28) rfl rfl (by omega) (by omega) ?_
    refine q_vret rfl rfl rfl ?_
    obtain rfl : k = 12 := by omega
    exact ⟨rfl, rfl⟩
theorem c_X11_copies_rp {S : rS} (hB : Bd S) : CS 1 66 [.inr (.inr 234), .inl 0, .inr (.inr 233), .inl 0, .inl 187] S (fun r' S' => r' = none ∧ S' = mx_cp S 234 0 233 0 187) := by
  refine RS.beg (ls := [some (.inr (.inr 234)), some (.inl 0), some (.inr (.inr 233)), some (.inl 0), some (.inl 187), none]) rfl rfl rfl rfl rfl ?_
  refine r_const (pc' := 1) rfl rfl ?_
  refine r_istore (pc' := 3) (ls' := [some (.inr (.inr 234)), some (.inl 0), some (.inr (.inr 233)), some (.inl 0), some (.inl 187), some (.inl 0)]) rfl rfl rfl rfl ?_
  refine r_mem (show S = mx_cp S 234 0 233 0 (0 : Int) from by exact cp_0 _ _ _ _ _) ?_
  refine r_while (α := Int) (fun z' => [some (.inr (.inr 234)), some (.inl 0), some (.inr (.inr 233)), some (.inl 0), some (.inl 187), some (.inl z')]) (fun z' => mx_cp S 234 0 233 0 z') (fun z' => (0 ≤ z' ∧ z' ≤ 187)) (fun z' => (187 - z').toNat) ?_ 0 (show (0 ≤ (0 : Int) ∧ (0 : Int) ≤ 187) from by omega)
  rintro k hI' ih3
  have hI' : (0 ≤ k ∧ k ≤ 187) := hI'
  have i1 := hI'
  show RS _ _ _ _ [some (.inr (.inr 234)), some (.inl 0), some (.inr (.inr 233)), some (.inl 0), some (.inl 187), some (.inl k)] [] (mx_cp S 234 0 233 0 k)
  have hB1 : Bd (mx_cp S 234 0 233 0 k) := by exact Bd_cp hB (fun k _ _ => by exact ⟨Int.le_refl _, Int.le_refl _⟩)
  refine r_iload (pc' := 5) rfl rfl rfl ?_
  refine r_iload (pc' := 7) rfl rfl rfl ?_
  by_cases h2 : k < 187
  · refine r_icmp_ge0 (pc' := 10) rfl rfl (by omega) (by omega) ?_
    refine r_aload (pc' := 11) rfl rfl rfl ?_
    refine r_iload (pc' := 12) rfl rfl rfl ?_
    refine r_iload (pc' := 14) rfl rfl rfl ?_
    refine r_iadd (pc' := 15) rfl rfl ?_
    refine r_aload (pc' := 16) rfl rfl rfl ?_
    refine r_iload (pc' := 17) rfl rfl rfl ?_
    refine r_iload (pc' := 19) rfl rfl rfl ?_
    refine r_iadd (pc' := 20) rfl rfl ?_
    refine r_aldv (pc' := 21) (v := (S 234 (0 + k))) 187 rfl rfl rfl (by omega) (cp_o (by omega)) ?_
    have b3 := bda_234 hB (0 + k)
    refine r_ast (pc' := 22) 187 rfl rfl rfl (by omega) ?_
    refine r_iinc (pc' := 25) (ls' := [some (.inr (.inr 234)), some (.inl 0), some (.inr (.inr 233)), some (.inl 0), some (.inl 187), some (.inl (k + 1))]) rfl rfl rfl rfl rfl ?_
    refine r_goto (pc' := 3) rfl rfl ?_
    refine r_mem (show mx_up (mx_cp S 234 0 233 0 k) 233 (0 + k) (S 234 (0 + k)) = mx_cp S 234 0 233 0 (k + 1) from by exact cp_s (by omega) rfl (by omega) rfl) ?_
    exact ih3 (k + 1) (show (0 ≤ (k + 1) ∧ (k + 1) ≤ 187) from by omega) (show (187 - (k + 1)).toNat < (187 - k).toNat from by omega)
  · refine r_icmp_ge1 (pc' := 28) rfl rfl (by omega) (by omega) ?_
    refine q_vret rfl rfl rfl ?_
    obtain rfl : k = 187 := by omega
    exact ⟨rfl, rfl⟩
theorem c_X11_copies_pr {S : rS} (hB : Bd S) : CS 1 66 [.inr (.inr 233), .inl 0, .inr (.inr 234), .inl 0, .inl 187] S (fun r' S' => r' = none ∧ S' = mx_cp S 233 0 234 0 187) := by
  refine RS.beg (ls := [some (.inr (.inr 233)), some (.inl 0), some (.inr (.inr 234)), some (.inl 0), some (.inl 187), none]) rfl rfl rfl rfl rfl ?_
  refine r_const (pc' := 1) rfl rfl ?_
  refine r_istore (pc' := 3) (ls' := [some (.inr (.inr 233)), some (.inl 0), some (.inr (.inr 234)), some (.inl 0), some (.inl 187), some (.inl 0)]) rfl rfl rfl rfl ?_
  refine r_mem (show S = mx_cp S 233 0 234 0 (0 : Int) from by exact cp_0 _ _ _ _ _) ?_
  refine r_while (α := Int) (fun z' => [some (.inr (.inr 233)), some (.inl 0), some (.inr (.inr 234)), some (.inl 0), some (.inl 187), some (.inl z')]) (fun z' => mx_cp S 233 0 234 0 z') (fun z' => (0 ≤ z' ∧ z' ≤ 187)) (fun z' => (187 - z').toNat) ?_ 0 (show (0 ≤ (0 : Int) ∧ (0 : Int) ≤ 187) from by omega)
  rintro k hI' ih3
  have hI' : (0 ≤ k ∧ k ≤ 187) := hI'
  have i1 := hI'
  show RS _ _ _ _ [some (.inr (.inr 233)), some (.inl 0), some (.inr (.inr 234)), some (.inl 0), some (.inl 187), some (.inl k)] [] (mx_cp S 233 0 234 0 k)
  have hB1 : Bd (mx_cp S 233 0 234 0 k) := by exact Bd_cp hB (fun k _ _ => by exact ⟨Int.le_refl _, Int.le_refl _⟩)
  refine r_iload (pc' := 5) rfl rfl rfl ?_
  refine r_iload (pc' := 7) rfl rfl rfl ?_
  by_cases h2 : k < 187
  · refine r_icmp_ge0 (pc' := 10) rfl rfl (by omega) (by omega) ?_
    refine r_aload (pc' := 11) rfl rfl rfl ?_
    refine r_iload (pc' := 12) rfl rfl rfl ?_
    refine r_iload (pc' := 14) rfl rfl rfl ?_
    refine r_iadd (pc' := 15) rfl rfl ?_
    refine r_aload (pc' := 16) rfl rfl rfl ?_
    refine r_iload (pc' := 17) rfl rfl rfl ?_
    refine r_iload (pc' := 19) rfl rfl rfl ?_
    refine r_iadd (pc' := 20) rfl rfl ?_
    refine r_aldv (pc' := 21) (v := (S 233 (0 + k))) 187 rfl rfl rfl (by omega) (cp_o (by omega)) ?_
    have b3 := bda_233 hB (0 + k)
    refine r_ast (pc' := 22) 187 rfl rfl rfl (by omega) ?_
    refine r_iinc (pc' := 25) (ls' := [some (.inr (.inr 233)), some (.inl 0), some (.inr (.inr 234)), some (.inl 0), some (.inl 187), some (.inl (k + 1))]) rfl rfl rfl rfl rfl ?_
    refine r_goto (pc' := 3) rfl rfl ?_
    refine r_mem (show mx_up (mx_cp S 233 0 234 0 k) 234 (0 + k) (S 233 (0 + k)) = mx_cp S 233 0 234 0 (k + 1) from by exact cp_s (by omega) rfl (by omega) rfl) ?_
    exact ih3 (k + 1) (show (0 ≤ (k + 1) ∧ (k + 1) ≤ 187) from by omega) (show (187 - (k + 1)).toNat < (187 - k).toNat from by omega)
  · refine r_icmp_ge1 (pc' := 28) rfl rfl (by omega) (by omega) ?_
    refine q_vret rfl rfl rfl ?_
    obtain rfl : k = 187 := by omega
    exact ⟨rfl, rfl⟩
