/-- the odds as the reference counts them: way by way -/
def opw (q a t : Int) : Int := fo (fun k xx => xx * (if tb t k then q else 10 - q)) 1 a.toNat
def ost (q a s : Int) : Int → Int → Int := fun t xx => xx + (if s < pop t then 0 else opw q a t)
def oab (q a s : Int) : Int := fo (ost q a s) 0 (2 ^ a.toNat)
theorem oab_n : ∀ a : Fin 9, ∀ q : Fin 11, ∀ s : Fin 10, oab q.val a.val ((s.val : Int) - 1) = wam ((s.val : Int) - 1) a.val q.val := by decide +kernel
theorem oab_neg {q a s : Int} (h : s < 0) : oab q a s = 0 := by
  have := fo_ind (f := ost q a s) (a := (0 : Int)) (fun _ z => z = 0) rfl (N := 2 ^ a.toNat) (fun k z _ _ hz => by
    show z + (if s < pop k then 0 else _) = 0
    rw [if_pos (by have := pop_r k; omega), hz]; rfl) _ (Nat.le_refl _)
  exact this
theorem wam_neg {q a s : Int} (h : s < 0) : wam s a q = 0 := by
  unfold wam
  have e : (mx_min s a + 1).toNat = 0 := by have := mx_min_b s a; omega
  rw [e]; rfl
theorem oab_e {q a s : Int} (hq : 0 ≤ q ∧ q ≤ 10) (ha : 0 ≤ a ∧ a ≤ 8) (hs : -8 ≤ s ∧ s ≤ 8) : oab q a s = wam s a q := by
  by_cases h : s < 0
  · rw [oab_neg h, wam_neg h]
  · obtain ⟨x, hx⟩ := Int.eq_ofNat_of_zero_le (show 0 ≤ s + 1 by omega)
    obtain ⟨a', rfl⟩ := Int.eq_ofNat_of_zero_le ha.1
    obtain ⟨q', rfl⟩ := Int.eq_ofNat_of_zero_le hq.1
    have := oab_n ⟨a', by omega⟩ ⟨q', by omega⟩ ⟨x, by omega⟩
    rw [show s = (x : Int) - 1 by omega]
    exact this
theorem shp_n : ∀ n : Nat, n < 9 → mx_shl 1 n = ((2 ^ n : Nat) : Int) := by decide +kernel
theorem shp {n : Int} (h : 0 ≤ n ∧ n ≤ 8) : (mx_shl 1 n).toNat = 2 ^ n.toNat ∧ 1 ≤ mx_shl 1 n ∧ mx_shl 1 n ≤ 256 := by
  obtain ⟨m, rfl⟩ := Int.eq_ofNat_of_zero_le h.1
  have e := shp_n m (by omega)
  have h2 : 2 ^ m ≤ 2 ^ 8 := Nat.pow_le_pow_right (by omega) (by omega)
  have h3 : 0 < 2 ^ m := Nat.pow_pos (by omega)
  rw [e]
  exact ⟨rfl, by omega, by omega⟩
noncomputable def nbM (S : rS) (f : Int) : Int := pop (bs (fun kk => tb (S 236 (0 + f)) kk ∧ btake (S 233 (1 + f)) (S 233 (29 + 8 * f + kk))) (S 233 (22 + f)))
noncomputable def odk (S : rS) (f m q t : Int) : Int := if t = 0 then oab q (nbM S f) (pop (S 236 (0 + f)) - m) / gc (oab q (nbM S f) (pop (S 236 (0 + f)) - m)) (pw 10 (nbM S f)) else pw 10 (nbM S f) / gc (oab q (nbM S f) (pop (S 236 (0 + f)) - m)) (pw 10 (nbM S f))
theorem c_X11_odds {f : Int} {m : Int} {q : Int} {t : Int} {S : rS} (hB : Bd S) (h_f : -2147483648 ≤ f ∧ f < 2147483648) (h_m : -2147483648 ≤ m ∧ m < 2147483648) (h_q : -2147483648 ≤ q ∧ q < 2147483648) (h_t : -2147483648 ≤ t ∧ t < 2147483648) : CS 3 107 [.inr (.inr 232), .inl f, .inl m, .inl q, .inl t] S (fun r' S' => r' = some (.inl (if 0 ≤ f ∧ f ≤ S 233 0 - 1 then if (0 ≤ m ∧ m ≤ 8) ∧ (0 ≤ q ∧ q ≤ 10) ∧ 0 ≤ t ∧ t ≤ 1 then odk S f m q t else -3 else -2)) ∧ S' = S) := by
  refine RS.beg (ls := [some (.inr (.inr 232)), some (.inl f), some (.inl m), some (.inl q), some (.inl t), none, none, none, none, none, none, none, none, none, none, none, none]) rfl rfl rfl rfl rfl ?_
  have n0 : 0 ≤ S 233 0 ∧ S 233 0 ≤ 7 := hB 233 0
  refine r_aload (pc' := 1) rfl rfl rfl ?_
  refine r_iload (pc' := 2) rfl rfl rfl ?_
  have b1 : 0 ≤ S 233 0 ∧ S 233 0 ≤ 7 := hB 233 0
  by_cases h2 : 0 ≤ f ∧ f ≤ S 233 0 - 1
  · skip
    refine q_callE (pc' := 5) (w := some (.inl 1)) (S2 := S) (st' := [.inl 1]) rfl rfl rfl (bi_pos h2 (c_X11_isField (f := f) (S := S) hB (show -2147483648 ≤ f ∧ f < 2147483648 from by omega))) (by decide) rfl rfl (Nat.le_of_ble_eq_true rfl) (fun _ _ => ⟨_, _, rfl, rfl⟩) rfl rfl ?_
    refine r_if_ne1 (pc' := 11) rfl rfl (by decide) (by decide) ?_
    refine r_iload (pc' := 12) rfl rfl rfl ?_
    refine r_i2l (pc' := 13) rfl rfl (by omega) ?_
    refine r_lcon (pc' := 14) rfl rfl ?_
    refine r_lcon (pc' := 17) rfl rfl ?_
    by_cases h3 : (0 : Int) ≤ m ∧ m ≤ (8 : Int)
    · skip
      refine q_callE (pc' := 20) (w := some (.inl 1)) (S2 := S) (st' := [.inl 1]) rfl rfl rfl (bi_pos h3 (c_X11_in (a := m) (b := 0) (c := 8) (S := S)  (show -2147483648 ≤ m ∧ m < 2147483648 from by omega) (show -2147483648 ≤ (0 : Int) ∧ (0 : Int) < 2147483648 from by omega) (show -2147483648 ≤ (8 : Int) ∧ (8 : Int) < 2147483648 from by omega))) (by decide) rfl rfl (Nat.le_of_ble_eq_true rfl) (fun q => absurd rfl q) rfl rfl ?_
      refine r_if_eq0 (pc' := 23) rfl rfl (by decide) (by decide) ?_
      refine r_iload (pc' := 24) rfl rfl rfl ?_
      refine r_i2l (pc' := 25) rfl rfl (by omega) ?_
      refine r_lcon (pc' := 26) rfl rfl ?_
      refine r_lcon (pc' := 29) rfl rfl ?_
      by_cases h4 : (0 : Int) ≤ q ∧ q ≤ (10 : Int)
      · skip
        refine q_callE (pc' := 32) (w := some (.inl 1)) (S2 := S) (st' := [.inl 1]) rfl rfl rfl (bi_pos h4 (c_X11_in (a := q) (b := 0) (c := 10) (S := S)  (show -2147483648 ≤ q ∧ q < 2147483648 from by omega) (show -2147483648 ≤ (0 : Int) ∧ (0 : Int) < 2147483648 from by omega) (show -2147483648 ≤ (10 : Int) ∧ (10 : Int) < 2147483648 from by omega))) (by decide) rfl rfl (Nat.le_of_ble_eq_true rfl) (fun q => absurd rfl q) rfl rfl ?_
        refine r_if_eq0 (pc' := 35) rfl rfl (by decide) (by decide) ?_
        refine r_iload (pc' := 37) rfl rfl rfl ?_
        by_cases h5 : 0 ≤ t ∧ t ≤ 1
        · skip
          refine q_callE (pc' := 40) (w := some (.inl 1)) (S2 := S) (st' := [.inl 1]) rfl rfl rfl (bi_pos h5 (c_X11_isTwo (k := t) (S := S)  (show -2147483648 ≤ t ∧ t < 2147483648 from by omega))) (by decide) rfl rfl (Nat.le_of_ble_eq_true rfl) (fun q => absurd rfl q) rfl rfl ?_
          refine r_if_ne1 (pc' := 46) rfl rfl (by decide) (by decide) ?_
          refine r_aload (pc' := 47) rfl rfl rfl ?_
          refine r_getr (pc' := 50) (v := 236) rfl rfl rfl rfl rfl ?_
          refine r_const (pc' := 51) rfl rfl ?_
          refine r_iload (pc' := 52) rfl rfl rfl ?_
          refine r_iadd (pc' := 53) rfl rfl ?_
          refine r_aldv (pc' := 54) (v := (S 236 (0 + f))) 12 rfl rfl rfl (by omega) rfl ?_
          have b6 := bdc_236_0 hB f
          refine q_callE (pc' := 57) (w := some (.inl (pop (S 236 (0 + f))))) (S2 := S) (st' := [.inl (pop (S 236 (0 + f)))]) rfl rfl rfl (c_X11_bits (a := (S 236 (0 + f))) (S := S)  (show 0 ≤ (S 236 (0 + f)) ∧ (S 236 (0 + f)) < 512 from by omega)) (by decide) rfl rfl (Nat.le_of_ble_eq_true rfl) (fun q => absurd rfl q) rfl rfl ?_
          have b7 : 0 ≤ (pop (S 236 (0 + f))) ∧ (pop (S 236 (0 + f))) ≤ 9 := pop_r _
          refine r_istore (pc' := 59) (ls' := [some (.inr (.inr 232)), some (.inl f), some (.inl m), some (.inl q), some (.inl t), some (.inl (pop (S 236 (0 + f)))), none, none, none, none, none, none, none, none, none, none, none]) rfl rfl rfl rfl ?_
          refine r_aload (pc' := 60) rfl rfl rfl ?_
          refine r_iload (pc' := 61) rfl rfl rfl ?_
          have b8 := bdc_233_1 hB f
          have b9 := bdc_233_22 hB f
          refine q_callE (pc' := 64) (w := some (.inl (bs (fun kk => tb (S 236 (0 + f)) kk ∧ btake (S 233 (1 + f)) (S 233 (29 + 8 * f + kk))) (S 233 (22 + f))))) (S2 := S) (st' := [.inl (bs (fun kk => tb (S 236 (0 + f)) kk ∧ btake (S 233 (1 + f)) (S 233 (29 + 8 * f + kk))) (S 233 (22 + f)))]) rfl rfl rfl (c_X11_birdsAt (f := f) (S := S) hB (show 0 ≤ f ∧ f < 7 from by omega)) (by decide) rfl rfl (Nat.le_of_ble_eq_true rfl) (fun _ _ => ⟨_, _, rfl, rfl⟩) rfl rfl ?_
          have b10 : 0 ≤ (bs (fun kk => tb (S 236 (0 + f)) kk ∧ btake (S 233 (1 + f)) (S 233 (29 + 8 * f + kk))) (S 233 (22 + f))) ∧ (bs (fun kk => tb (S 236 (0 + f)) kk ∧ btake (S 233 (1 + f)) (S 233 (29 + 8 * f + kk))) (S 233 (22 + f))) < 256 := bs8 (by have q := bdc_233_22 hB f; omega)
          refine q_callE (pc' := 67) (w := some (.inl (pop (bs (fun kk => tb (S 236 (0 + f)) kk ∧ btake (S 233 (1 + f)) (S 233 (29 + 8 * f + kk))) (S 233 (22 + f)))))) (S2 := S) (st' := [.inl (pop (bs (fun kk => tb (S 236 (0 + f)) kk ∧ btake (S 233 (1 + f)) (S 233 (29 + 8 * f + kk))) (S 233 (22 + f))))]) rfl rfl rfl (c_X11_bits (a := (bs (fun kk => tb (S 236 (0 + f)) kk ∧ btake (S 233 (1 + f)) (S 233 (29 + 8 * f + kk))) (S 233 (22 + f)))) (S := S)  (show 0 ≤ (bs (fun kk => tb (S 236 (0 + f)) kk ∧ btake (S 233 (1 + f)) (S 233 (29 + 8 * f + kk))) (S 233 (22 + f))) ∧ (bs (fun kk => tb (S 236 (0 + f)) kk ∧ btake (S 233 (1 + f)) (S 233 (29 + 8 * f + kk))) (S 233 (22 + f))) < 512 from by omega)) (by decide) rfl rfl (Nat.le_of_ble_eq_true rfl) (fun q => absurd rfl q) rfl rfl ?_
          have b11 : 0 ≤ (pop (bs (fun kk => tb (S 236 (0 + f)) kk ∧ btake (S 233 (1 + f)) (S 233 (29 + 8 * f + kk))) (S 233 (22 + f)))) ∧ (pop (bs (fun kk => tb (S 236 (0 + f)) kk ∧ btake (S 233 (1 + f)) (S 233 (29 + 8 * f + kk))) (S 233 (22 + f)))) ≤ 9 := pop_r _
          have p8 : pop (bs (fun kk => tb (S 236 (0 + f)) kk ∧ btake (S 233 (1 + f)) (S 233 (29 + 8 * f + kk))) (S 233 (22 + f))) ≤ 8 := pop_8 (a := (bs (fun kk => tb (S 236 (0 + f)) kk ∧ btake (S 233 (1 + f)) (S 233 (29 + 8 * f + kk))) (S 233 (22 + f)))) (by omega)
          have pl8 : pop (S 236 (0 + f)) ≤ 8 := pop_8 (lf8 hB (by omega))
          refine r_istore (pc' := 69) (ls' := [some (.inr (.inr 232)), some (.inl f), some (.inl m), some (.inl q), some (.inl t), some (.inl (pop (S 236 (0 + f)))), some (.inl (pop (bs (fun kk => tb (S 236 (0 + f)) kk ∧ btake (S 233 (1 + f)) (S 233 (29 + 8 * f + kk))) (S 233 (22 + f))))), none, none, none, none, none, none, none, none, none, none]) rfl rfl rfl rfl ?_
          refine r_lcon (pc' := 70) rfl rfl ?_
          refine r_lstore (pc' := 72) (ls' := [some (.inr (.inr 232)), some (.inl f), some (.inl m), some (.inl q), some (.inl t), some (.inl (pop (S 236 (0 + f)))), some (.inl (pop (bs (fun kk => tb (S 236 (0 + f)) kk ∧ btake (S 233 (1 + f)) (S 233 (29 + 8 * f + kk))) (S 233 (22 + f))))), some (.inr (.inl 0)), none, none, none, none, none, none, none, none, none]) rfl rfl rfl rfl ?_
          refine r_lcon (pc' := 73) rfl rfl ?_
          refine r_lstore (pc' := 75) (ls' := [some (.inr (.inr 232)), some (.inl f), some (.inl m), some (.inl q), some (.inl t), some (.inl (pop (S 236 (0 + f)))), some (.inl (pop (bs (fun kk => tb (S 236 (0 + f)) kk ∧ btake (S 233 (1 + f)) (S 233 (29 + 8 * f + kk))) (S 233 (22 + f))))), some (.inr (.inl 0)), none, some (.inr (.inl 1)), none, none, none, none, none, none, none]) rfl rfl rfl rfl ?_
          have nb : 0 ≤ nbM S f ∧ nbM S f ≤ 8 := (by unfold nbM; omega)
          have ns := shp nb
          have np := pw_b (b := 10) (n := nbM S f) (by omega) nb
          have no := oab_e (q := q) (a := nbM S f) (s := pop (S 236 (0 + f)) - m) (by omega) nb (by omega)
          have nw := wam_b (m := pop (S 236 (0 + f)) - m) (a := nbM S f) (q := q) (by omega) nb (by omega)
          show RS _ _ _ _ [some (.inr (.inr 232)), some (.inl f), some (.inl m), some (.inl q), some (.inl t), some (.inl (pop (S 236 (0 + f)))), some (.inl (nbM S f)), some (.inr (.inl 0)), none, some (.inr (.inl 1)), none, none, none, none, none, none, none] [] S
          refine r_const (pc' := 76) rfl rfl ?_
          refine r_istore (pc' := 78) (ls' := [some (.inr (.inr 232)), some (.inl f), some (.inl m), some (.inl q), some (.inl t), some (.inl (pop (S 236 (0 + f)))), some (.inl (nbM S f)), some (.inr (.inl 0)), none, some (.inr (.inl 1)), none, some (.inl 0), none, none, none, none, none]) rfl rfl rfl rfl ?_
          refine r_while (α := Int × Int) (fun z' => [some (.inr (.inr 232)), some (.inl f), some (.inl m), some (.inl q), some (.inl t), some (.inl (pop (S 236 (0 + f)))), some (.inl (nbM S f)), some (.inr (.inl 0)), none, some (.inr (.inl z'.1)), none, some (.inl z'.2), none, none, none, none, none]) (fun z' => S) (fun z' => (0 ≤ z'.2 ∧ z'.2 ≤ (nbM S f)) ∧ (z'.1 = fo (fun _ xx => xx * 10) 1 (z'.2).toNat)) (fun z' => ((nbM S f) - z'.2).toNat) ?_ (1, 0) (show (0 ≤ (0 : Int) ∧ (0 : Int) ≤ (nbM S f)) ∧ ((1 : Int) = fo (fun _ xx => xx * 10) 1 (0 : Int).toNat) from by exact ⟨by omega, rfl⟩)
          rintro ⟨e, kz⟩ hI' ih78
          have hI' : (0 ≤ kz ∧ kz ≤ (nbM S f)) ∧ (e = fo (fun _ xx => xx * 10) 1 kz.toNat) := hI'
          obtain ⟨i1, i2⟩ := hI'
          show RS _ _ _ _ [some (.inr (.inr 232)), some (.inl f), some (.inl m), some (.inl q), some (.inl t), some (.inl (pop (S 236 (0 + f)))), some (.inl (nbM S f)), some (.inr (.inl 0)), none, some (.inr (.inl e)), none, some (.inl kz), none, none, none, none, none] [] S
          refine r_iload (pc' := 80) rfl rfl rfl ?_
          refine r_iload (pc' := 82) rfl rfl rfl ?_
          by_cases h12 : kz < (nbM S f)
          · refine r_icmp_ge0 (pc' := 85) rfl rfl (by omega) (by omega) ?_
            refine r_lload (pc' := 87) rfl rfl rfl ?_
            refine r_lcon (pc' := 90) rfl rfl ?_
            refine r_lmul (pc' := 91) rfl rfl ?_
            refine r_lstore (pc' := 93) (ls' := [some (.inr (.inr 232)), some (.inl f), some (.inl m), some (.inl q), some (.inl t), some (.inl (pop (S 236 (0 + f)))), some (.inl (nbM S f)), some (.inr (.inl 0)), none, some (.inr (.inl (e * 10))), none, some (.inl kz), none, none, none, none, none]) rfl rfl rfl rfl ?_
            refine r_iinc (pc' := 96) (ls' := [some (.inr (.inr 232)), some (.inl f), some (.inl m), some (.inl q), some (.inl t), some (.inl (pop (S 236 (0 + f)))), some (.inl (nbM S f)), some (.inr (.inl 0)), none, some (.inr (.inl (e * 10))), none, some (.inl (kz + 1)), none, none, none, none, none]) rfl rfl rfl rfl rfl ?_
            refine r_goto (pc' := 78) rfl rfl ?_
            exact ih78 ((e * 10), (kz + 1)) (show (0 ≤ (kz + 1) ∧ (kz + 1) ≤ (nbM S f)) ∧ ((e * 10) = fo (fun _ xx => xx * 10) 1 (kz + 1).toNat) from by exact ⟨by omega, by rw [fo_s (by omega), ← i2]⟩) (show ((nbM S f) - (kz + 1)).toNat < ((nbM S f) - kz).toNat from by omega)
          · refine r_icmp_ge1 (pc' := 99) rfl rfl (by omega) (by omega) ?_
            refine r_const (pc' := 100) rfl rfl ?_
            refine r_istore (pc' := 102) (ls' := [some (.inr (.inr 232)), some (.inl f), some (.inl m), some (.inl q), some (.inl t), some (.inl (pop (S 236 (0 + f)))), some (.inl (nbM S f)), some (.inr (.inl 0)), none, some (.inr (.inl e)), none, some (.inl 0), none, none, none, none, none]) rfl rfl rfl rfl ?_
            refine r_while (α := Int × Int) (fun z' => [some (.inr (.inr 232)), some (.inl f), some (.inl m), some (.inl q), some (.inl t), some (.inl (pop (S 236 (0 + f)))), some (.inl (nbM S f)), some (.inr (.inl z'.1)), none, some (.inr (.inl e)), none, some (.inl z'.2), none, none, none, none, none]) (fun z' => S) (fun z' => (0 ≤ z'.2 ∧ z'.2 ≤ mx_shl 1 (nbM S f)) ∧ (z'.1 = fo (ost q (nbM S f) (pop (S 236 (0 + f)) - m)) 0 (z'.2).toNat)) (fun z' => (mx_shl 1 (nbM S f) - z'.2).toNat) ?_ (0, 0) (show (0 ≤ (0 : Int) ∧ (0 : Int) ≤ mx_shl 1 (nbM S f)) ∧ ((0 : Int) = fo (ost q (nbM S f) (pop (S 236 (0 + f)) - m)) 0 (0 : Int).toNat) from by exact ⟨by omega, rfl⟩)
            rintro ⟨a, x⟩ hI' ih102
            have hI' : (0 ≤ x ∧ x ≤ mx_shl 1 (nbM S f)) ∧ (a = fo (ost q (nbM S f) (pop (S 236 (0 + f)) - m)) 0 x.toNat) := hI'
            obtain ⟨i3, i4⟩ := hI'
            show RS _ _ _ _ [some (.inr (.inr 232)), some (.inl f), some (.inl m), some (.inl q), some (.inl t), some (.inl (pop (S 236 (0 + f)))), some (.inl (nbM S f)), some (.inr (.inl a)), none, some (.inr (.inl e)), none, some (.inl x), none, none, none, none, none] [] S
            refine r_iload (pc' := 104) rfl rfl rfl ?_
            refine r_const (pc' := 105) rfl rfl ?_
            refine r_iload (pc' := 107) rfl rfl rfl ?_
            refine r_ishl (pc' := 108) rfl rfl ?_
            have b13 := mx_shl_r 1 (nbM S f)
            by_cases h14 : x < (mx_shl 1 (nbM S f))
            · refine r_icmp_ge0 (pc' := 111) rfl rfl (by omega) (by omega) ?_
              refine r_lcon (pc' := 112) rfl rfl ?_
              refine r_lstore (pc' := 114) (ls' := [some (.inr (.inr 232)), some (.inl f), some (.inl m), some (.inl q), some (.inl t), some (.inl (pop (S 236 (0 + f)))), some (.inl (nbM S f)), some (.inr (.inl a)), none, some (.inr (.inl e)), none, some (.inl x), some (.inr (.inl 1)), none, none, none, none]) rfl rfl rfl rfl ?_
              refine r_const (pc' := 115) rfl rfl ?_
              refine r_istore (pc' := 117) (ls' := [some (.inr (.inr 232)), some (.inl f), some (.inl m), some (.inl q), some (.inl t), some (.inl (pop (S 236 (0 + f)))), some (.inl (nbM S f)), some (.inr (.inl a)), none, some (.inr (.inl e)), none, some (.inl x), some (.inr (.inl 1)), none, some (.inl 0), none, none]) rfl rfl rfl rfl ?_
              refine r_while (α := Int × Int) (fun z' => [some (.inr (.inr 232)), some (.inl f), some (.inl m), some (.inl q), some (.inl t), some (.inl (pop (S 236 (0 + f)))), some (.inl (nbM S f)), some (.inr (.inl a)), none, some (.inr (.inl e)), none, some (.inl x), some (.inr (.inl z'.1)), none, some (.inl z'.2), none, none]) (fun z' => S) (fun z' => (0 ≤ z'.2 ∧ z'.2 ≤ (nbM S f)) ∧ (z'.1 = fo (fun kk xx => xx * (if tb x kk then q else 10 - q)) 1 (z'.2).toNat)) (fun z' => ((nbM S f) - z'.2).toNat) ?_ (1, 0) (show (0 ≤ (0 : Int) ∧ (0 : Int) ≤ (nbM S f)) ∧ ((1 : Int) = fo (fun kk xx => xx * (if tb x kk then q else 10 - q)) 1 (0 : Int).toNat) from by exact ⟨by omega, rfl⟩)
              rintro ⟨b, k⟩ hI' ih117
              have hI' : (0 ≤ k ∧ k ≤ (nbM S f)) ∧ (b = fo (fun kk xx => xx * (if tb x kk then q else 10 - q)) 1 k.toNat) := hI'
              obtain ⟨i5, i6⟩ := hI'
              show RS _ _ _ _ [some (.inr (.inr 232)), some (.inl f), some (.inl m), some (.inl q), some (.inl t), some (.inl (pop (S 236 (0 + f)))), some (.inl (nbM S f)), some (.inr (.inl a)), none, some (.inr (.inl e)), none, some (.inl x), some (.inr (.inl b)), none, some (.inl k), none, none] [] S
              refine r_iload (pc' := 119) rfl rfl rfl ?_
              refine r_iload (pc' := 121) rfl rfl rfl ?_
              by_cases h15 : k < (nbM S f)
              · refine r_icmp_ge0 (pc' := 124) rfl rfl (by omega) (by omega) ?_
                refine r_lload (pc' := 126) rfl rfl rfl ?_
                refine r_iload (pc' := 128) rfl rfl rfl ?_
                refine r_iload (pc' := 130) rfl rfl rfl ?_
                by_cases h16 : tb x k
                · skip
                  refine q_callE (pc' := 133) (w := some (.inl 1)) (S2 := S) (st' := [.inl 1, .inr (.inl b)]) rfl rfl rfl (bi_pos h16 (c_X11_has (s := x) (q := k) (S := S)  (show -2147483648 ≤ x ∧ x < 2147483648 from by omega) (show 0 ≤ k ∧ k < 32 from by omega))) (by decide) rfl rfl (Nat.le_of_ble_eq_true rfl) (fun q => absurd rfl q) rfl rfl ?_
                  refine r_if_eq0 (pc' := 136) rfl rfl (by decide) (by decide) ?_
                  refine r_iload (pc' := 137) rfl rfl rfl ?_
                  refine r_i2l (pc' := 138) rfl rfl (by omega) ?_
                  refine r_goto (pc' := 146) rfl rfl ?_
                  refine r_lmul (pc' := 147) rfl rfl ?_
                  refine r_lstore (pc' := 149) (ls' := [some (.inr (.inr 232)), some (.inl f), some (.inl m), some (.inl q), some (.inl t), some (.inl (pop (S 236 (0 + f)))), some (.inl (nbM S f)), some (.inr (.inl a)), none, some (.inr (.inl e)), none, some (.inl x), some (.inr (.inl (b * q))), none, some (.inl k), none, none]) rfl rfl rfl rfl ?_
                  refine r_iinc (pc' := 152) (ls' := [some (.inr (.inr 232)), some (.inl f), some (.inl m), some (.inl q), some (.inl t), some (.inl (pop (S 236 (0 + f)))), some (.inl (nbM S f)), some (.inr (.inl a)), none, some (.inr (.inl e)), none, some (.inl x), some (.inr (.inl (b * q))), none, some (.inl (k + 1)), none, none]) rfl rfl rfl rfl rfl ?_
                  refine r_goto (pc' := 117) rfl rfl ?_
                  exact ih117 ((b * q), (k + 1)) (show (0 ≤ (k + 1) ∧ (k + 1) ≤ (nbM S f)) ∧ ((b * q) = fo (fun kk xx => xx * (if tb x kk then q else 10 - q)) 1 (k + 1).toNat) from by exact ⟨by omega, by rw [fo_s (by omega), ← i6, if_pos h16]⟩) (show ((nbM S f) - (k + 1)).toNat < ((nbM S f) - k).toNat from by omega)
                · skip
                  refine q_callE (pc' := 133) (w := some (.inl 0)) (S2 := S) (st' := [.inl 0, .inr (.inl b)]) rfl rfl rfl (bi_neg h16 (c_X11_has (s := x) (q := k) (S := S)  (show -2147483648 ≤ x ∧ x < 2147483648 from by omega) (show 0 ≤ k ∧ k < 32 from by omega))) (by decide) rfl rfl (Nat.le_of_ble_eq_true rfl) (fun q => absurd rfl q) rfl rfl ?_
                  refine r_if_eq1 (pc' := 141) rfl rfl (by decide) (by decide) ?_
                  refine r_const (pc' := 143) rfl rfl ?_
                  refine r_iload (pc' := 144) rfl rfl rfl ?_
                  refine r_isub (pc' := 145) rfl rfl ?_
                  refine r_i2l (pc' := 146) rfl rfl (by omega) ?_
                  refine r_lmul (pc' := 147) rfl rfl ?_
                  refine r_lstore (pc' := 149) (ls' := [some (.inr (.inr 232)), some (.inl f), some (.inl m), some (.inl q), some (.inl t), some (.inl (pop (S 236 (0 + f)))), some (.inl (nbM S f)), some (.inr (.inl a)), none, some (.inr (.inl e)), none, some (.inl x), some (.inr (.inl (b * (10 - q)))), none, some (.inl k), none, none]) rfl rfl rfl rfl ?_
                  refine r_iinc (pc' := 152) (ls' := [some (.inr (.inr 232)), some (.inl f), some (.inl m), some (.inl q), some (.inl t), some (.inl (pop (S 236 (0 + f)))), some (.inl (nbM S f)), some (.inr (.inl a)), none, some (.inr (.inl e)), none, some (.inl x), some (.inr (.inl (b * (10 - q)))), none, some (.inl (k + 1)), none, none]) rfl rfl rfl rfl rfl ?_
                  refine r_goto (pc' := 117) rfl rfl ?_
                  exact ih117 ((b * (10 - q)), (k + 1)) (show (0 ≤ (k + 1) ∧ (k + 1) ≤ (nbM S f)) ∧ ((b * (10 - q)) = fo (fun kk xx => xx * (if tb x kk then q else 10 - q)) 1 (k + 1).toNat) from by exact ⟨by omega, by rw [fo_s (by omega), ← i6, if_neg h16]⟩) (show ((nbM S f) - (k + 1)).toNat < ((nbM S f) - k).toNat from by omega)
              · refine r_icmp_ge1 (pc' := 155) rfl rfl (by omega) (by omega) ?_
                refine r_lload (pc' := 157) rfl rfl rfl ?_
                refine r_iload (pc' := 159) rfl rfl rfl ?_
                refine r_iload (pc' := 161) rfl rfl rfl ?_
                refine q_callE (pc' := 164) (w := some (.inl (pop x))) (S2 := S) (st' := [.inl (pop x), .inl (pop (S 236 (0 + f))), .inr (.inl a)]) rfl rfl rfl (c_X11_bits (a := x) (S := S)  (show 0 ≤ x ∧ x < 512 from by omega)) (by decide) rfl rfl (Nat.le_of_ble_eq_true rfl) (fun q => absurd rfl q) rfl rfl ?_
                have b17 : 0 ≤ (pop x) ∧ (pop x) ≤ 9 := pop_r _
                refine r_isub (pc' := 165) rfl rfl ?_
                refine r_iload (pc' := 166) rfl rfl rfl ?_
                by_cases h18 : ((pop (S 236 (0 + f))) - (pop x)) < m
                · refine r_icmp_lt1 (pc' := 174) rfl rfl (by omega) (by omega) ?_
                  refine r_lcon (pc' := 175) rfl rfl ?_
                  refine r_ladd (pc' := 176) rfl rfl ?_
                  refine r_lstore (pc' := 178) (ls' := [some (.inr (.inr 232)), some (.inl f), some (.inl m), some (.inl q), some (.inl t), some (.inl (pop (S 236 (0 + f)))), some (.inl (nbM S f)), some (.inr (.inl (a + 0))), none, some (.inr (.inl e)), none, some (.inl x), some (.inr (.inl b)), none, some (.inl k), none, none]) rfl rfl rfl rfl ?_
                  refine r_iinc (pc' := 181) (ls' := [some (.inr (.inr 232)), some (.inl f), some (.inl m), some (.inl q), some (.inl t), some (.inl (pop (S 236 (0 + f)))), some (.inl (nbM S f)), some (.inr (.inl (a + 0))), none, some (.inr (.inl e)), none, some (.inl (x + 1)), some (.inr (.inl b)), none, some (.inl k), none, none]) rfl rfl rfl rfl rfl ?_
                  refine r_goto (pc' := 102) rfl rfl ?_
                  refine r_forget [true, true, true, true, true, true, true, true, true, true, true, true, false, true, false, true, true] rfl ?_
                  exact ih102 ((a + 0), (x + 1)) (show (0 ≤ (x + 1) ∧ (x + 1) ≤ mx_shl 1 (nbM S f)) ∧ ((a + 0) = fo (ost q (nbM S f) (pop (S 236 (0 + f)) - m)) 0 (x + 1).toNat) from by exact ⟨by omega, by rw [fo_s (by omega), ← i4]; show _ = a + (if pop (S 236 (0 + f)) - m < pop x then 0 else opw q (nbM S f) x); rw [if_pos (by omega)]⟩) (show (mx_shl 1 (nbM S f) - (x + 1)).toNat < (mx_shl 1 (nbM S f) - x).toNat from by omega)
                · refine r_icmp_lt0 (pc' := 169) rfl rfl (by omega) (by omega) ?_
                  refine r_lload (pc' := 171) rfl rfl rfl ?_
                  refine r_goto (pc' := 175) rfl rfl ?_
                  refine r_ladd (pc' := 176) rfl rfl ?_
                  refine r_lstore (pc' := 178) (ls' := [some (.inr (.inr 232)), some (.inl f), some (.inl m), some (.inl q), some (.inl t), some (.inl (pop (S 236 (0 + f)))), some (.inl (nbM S f)), some (.inr (.inl (a + b))), none, some (.inr (.inl e)), none, some (.inl x), some (.inr (.inl b)), none, some (.inl k), none, none]) rfl rfl rfl rfl ?_
                  refine r_iinc (pc' := 181) (ls' := [some (.inr (.inr 232)), some (.inl f), some (.inl m), some (.inl q), some (.inl t), some (.inl (pop (S 236 (0 + f)))), some (.inl (nbM S f)), some (.inr (.inl (a + b))), none, some (.inr (.inl e)), none, some (.inl (x + 1)), some (.inr (.inl b)), none, some (.inl k), none, none]) rfl rfl rfl rfl rfl ?_
                  refine r_goto (pc' := 102) rfl rfl ?_
                  refine r_forget [true, true, true, true, true, true, true, true, true, true, true, true, false, true, false, true, true] rfl ?_
                  exact ih102 ((a + b), (x + 1)) (show (0 ≤ (x + 1) ∧ (x + 1) ≤ mx_shl 1 (nbM S f)) ∧ ((a + b) = fo (ost q (nbM S f) (pop (S 236 (0 + f)) - m)) 0 (x + 1).toNat) from by exact ⟨by omega, by rw [fo_s (by omega), ← i4]; show _ = a + (if pop (S 236 (0 + f)) - m < pop x then 0 else opw q (nbM S f) x); rw [if_neg (by omega), show b = opw q (nbM S f) x by rw [i6]; unfold opw; rw [show k.toNat = ((nbM S f)).toNat by omega]]⟩) (show (mx_shl 1 (nbM S f) - (x + 1)).toNat < (mx_shl 1 (nbM S f) - x).toNat from by omega)
            · refine r_icmp_ge1 (pc' := 184) rfl rfl (by omega) (by omega) ?_
              refine r_lload (pc' := 186) rfl rfl rfl ?_
              refine r_lstore (pc' := 188) (ls' := [some (.inr (.inr 232)), some (.inl f), some (.inl m), some (.inl q), some (.inl t), some (.inl (pop (S 236 (0 + f)))), some (.inl (nbM S f)), some (.inr (.inl a)), none, some (.inr (.inl e)), none, some (.inr (.inl a)), none, none, none, none, none]) rfl rfl rfl rfl ?_
              refine r_lload (pc' := 190) rfl rfl rfl ?_
              refine r_lstore (pc' := 192) (ls' := [some (.inr (.inr 232)), some (.inl f), some (.inl m), some (.inl q), some (.inl t), some (.inl (pop (S 236 (0 + f)))), some (.inl (nbM S f)), some (.inr (.inl a)), none, some (.inr (.inl e)), none, some (.inr (.inl a)), none, some (.inr (.inl e)), none, none, none]) rfl rfl rfl rfl ?_
              have ea0 : a = (oab q (nbM S f) (pop (S 236 (0 + f)) - m)) := (by rw [i4]; unfold oab; rw [← ns.1, show (mx_shl 1 (nbM S f)).toNat = x.toNat by omega])
              have ee0 : e = pw 10 (nbM S f) := (by rw [i2]; unfold pw; rw [show kz.toNat = ((nbM S f)).toNat by omega])
              refine r_while (α := Int × Int) (fun z' => [some (.inr (.inr 232)), some (.inl f), some (.inl m), some (.inl q), some (.inl t), some (.inl (pop (S 236 (0 + f)))), some (.inl (nbM S f)), some (.inr (.inl a)), none, some (.inr (.inl e)), none, some (.inr (.inl z'.1)), none, some (.inr (.inl z'.2)), none, none, none]) (fun z' => S) (fun z' => (0 ≤ z'.1 ∧ z'.1 ≤ 100000000) ∧ (0 ≤ z'.2 ∧ z'.2 ≤ 100000000) ∧ (gc z'.1 z'.2 = gc (oab q (nbM S f) (pop (S 236 (0 + f)) - m)) (pw 10 (nbM S f))) ∧ (1 ≤ gc (oab q (nbM S f) (pop (S 236 (0 + f)) - m)) (pw 10 (nbM S f)) ∧ gc (oab q (nbM S f) (pop (S 236 (0 + f)) - m)) (pw 10 (nbM S f)) ≤ 100000000)) (fun z' => (z'.2).toNat) ?_ (a, e) (show (0 ≤ a ∧ a ≤ 100000000) ∧ (0 ≤ e ∧ e ≤ 100000000) ∧ (gc a e = gc (oab q (nbM S f) (pop (S 236 (0 + f)) - m)) (pw 10 (nbM S f))) ∧ (1 ≤ gc (oab q (nbM S f) (pop (S 236 (0 + f)) - m)) (pw 10 (nbM S f)) ∧ gc (oab q (nbM S f) (pop (S 236 (0 + f)) - m)) (pw 10 (nbM S f)) ≤ 100000000) from by exact ⟨by omega, by omega, by rw [ea0, ee0], by have := gc_b (a := (oab q (nbM S f) (pop (S 236 (0 + f)) - m))) (b := pw 10 (nbM S f)) (by omega) (by omega); omega⟩)
              rintro ⟨u, v⟩ hI' ih192
              have hI' : (0 ≤ u ∧ u ≤ 100000000) ∧ (0 ≤ v ∧ v ≤ 100000000) ∧ (gc u v = gc (oab q (nbM S f) (pop (S 236 (0 + f)) - m)) (pw 10 (nbM S f))) ∧ (1 ≤ gc (oab q (nbM S f) (pop (S 236 (0 + f)) - m)) (pw 10 (nbM S f)) ∧ gc (oab q (nbM S f) (pop (S 236 (0 + f)) - m)) (pw 10 (nbM S f)) ≤ 100000000) := hI'
              obtain ⟨i7, i8, i9, ia⟩ := hI'
              show RS _ _ _ _ [some (.inr (.inr 232)), some (.inl f), some (.inl m), some (.inl q), some (.inl t), some (.inl (pop (S 236 (0 + f)))), some (.inl (nbM S f)), some (.inr (.inl a)), none, some (.inr (.inl e)), none, some (.inr (.inl u)), none, some (.inr (.inl v)), none, none, none] [] S
              refine r_lload (pc' := 194) rfl rfl rfl ?_
              refine r_lcon (pc' := 195) rfl rfl ?_
              refine r_lcmp (pc' := 196) rfl rfl (by omega) ?_
              have b19 := mx_cmp_b v 0
              by_cases h20 : v = 0
              · refine r_if_eq1 (pc' := 217) rfl rfl (by omega) (by omega) ?_
                have ev : v = 0 := by omega
                have eu : u = gc (oab q (nbM S f) (pop (S 236 (0 + f)) - m)) (pw 10 (nbM S f)) := by rw [← i9, ev, gc_0 (by omega)]
                refine r_iload (pc' := 219) rfl rfl rfl ?_
                by_cases h21 : t = 0
                · refine r_if_ne0 (pc' := 222) rfl rfl (by omega) (by omega) ?_
                  refine r_lload (pc' := 224) rfl rfl rfl ?_
                  refine r_lload (pc' := 226) rfl rfl rfl ?_
                  refine r_ldiv (pc' := 227) rfl rfl (by omega) ?_
                  refine r_goto (pc' := 235) rfl rfl ?_
                  refine r_l2i (pc' := 236) rfl rfl ?_
                  refine q_iret rfl rfl rfl ?_
                  exact ⟨by rw [if_pos (by omega), if_pos (by omega)]; unfold odk; rw [if_pos h21, ← eu, ← ea0], rfl⟩
                · refine r_if_ne1 (pc' := 230) rfl rfl (by omega) (by omega) ?_
                  refine r_lload (pc' := 232) rfl rfl rfl ?_
                  refine r_lload (pc' := 234) rfl rfl rfl ?_
                  refine r_ldiv (pc' := 235) rfl rfl (by omega) ?_
                  refine r_l2i (pc' := 236) rfl rfl ?_
                  refine q_iret rfl rfl rfl ?_
                  exact ⟨by rw [if_pos (by omega), if_pos (by omega)]; unfold odk; rw [if_neg h21, ← eu, ← ee0], rfl⟩
              · refine r_if_eq0 (pc' := 199) rfl rfl (by omega) (by omega) ?_
                refine r_lload (pc' := 201) rfl rfl rfl ?_
                refine r_lload (pc' := 203) rfl rfl rfl ?_
                refine r_lrem (pc' := 204) rfl rfl (by omega) ?_
                refine r_lstore (pc' := 206) (ls' := [some (.inr (.inr 232)), some (.inl f), some (.inl m), some (.inl q), some (.inl t), some (.inl (pop (S 236 (0 + f)))), some (.inl (nbM S f)), some (.inr (.inl a)), none, some (.inr (.inl e)), none, some (.inr (.inl u)), none, some (.inr (.inl v)), none, some (.inr (.inl (u % v))), none]) rfl rfl rfl rfl ?_
                refine r_lload (pc' := 208) rfl rfl rfl ?_
                refine r_lstore (pc' := 210) (ls' := [some (.inr (.inr 232)), some (.inl f), some (.inl m), some (.inl q), some (.inl t), some (.inl (pop (S 236 (0 + f)))), some (.inl (nbM S f)), some (.inr (.inl a)), none, some (.inr (.inl e)), none, some (.inr (.inl v)), none, some (.inr (.inl v)), none, some (.inr (.inl (u % v))), none]) rfl rfl rfl rfl ?_
                refine r_lload (pc' := 212) rfl rfl rfl ?_
                refine r_lstore (pc' := 214) (ls' := [some (.inr (.inr 232)), some (.inl f), some (.inl m), some (.inl q), some (.inl t), some (.inl (pop (S 236 (0 + f)))), some (.inl (nbM S f)), some (.inr (.inl a)), none, some (.inr (.inl e)), none, some (.inr (.inl v)), none, some (.inr (.inl (u % v))), none, some (.inr (.inl (u % v))), none]) rfl rfl rfl rfl ?_
                refine r_goto (pc' := 192) rfl rfl ?_
                refine r_forget [true, true, true, true, true, true, true, true, true, true, true, true, true, true, true, false, true] rfl ?_
                exact ih192 (v, (u % v)) (show (0 ≤ v ∧ v ≤ 100000000) ∧ (0 ≤ (u % v) ∧ (u % v) ≤ 100000000) ∧ (gc v (u % v) = gc (oab q (nbM S f) (pop (S 236 (0 + f)) - m)) (pw 10 (nbM S f))) ∧ (1 ≤ gc (oab q (nbM S f) (pop (S 236 (0 + f)) - m)) (pw 10 (nbM S f)) ∧ gc (oab q (nbM S f) (pop (S 236 (0 + f)) - m)) (pw 10 (nbM S f)) ≤ 100000000) from by have r0 := Int.emod_nonneg u (show v ≠ 0 by omega); have r1 := Int.emod_lt_of_pos u (show 0 < v by omega); exact ⟨by omega, by omega, (gc_s (by omega) (by omega)).trans i9, ia⟩) (show (u % v).toNat < v.toNat from by have r0 := Int.emod_nonneg u (show v ≠ 0 by omega); have r1 := Int.emod_lt_of_pos u (show 0 < v by omega); omega)
        · skip
          refine q_callE (pc' := 40) (w := some (.inl 0)) (S2 := S) (st' := [.inl 0]) rfl rfl rfl (bi_neg h5 (c_X11_isTwo (k := t) (S := S)  (show -2147483648 ≤ t ∧ t < 2147483648 from by omega))) (by decide) rfl rfl (Nat.le_of_ble_eq_true rfl) (fun q => absurd rfl q) rfl rfl ?_
          refine r_if_ne0 (pc' := 43) rfl rfl (by decide) (by decide) ?_
          refine r_const (pc' := 45) rfl rfl ?_
          refine q_iret rfl rfl rfl ?_
          exact ⟨by rw [if_pos (by omega), if_neg (by omega)], rfl⟩
      · skip
        refine q_callE (pc' := 32) (w := some (.inl 0)) (S2 := S) (st' := [.inl 0]) rfl rfl rfl (bi_neg h4 (c_X11_in (a := q) (b := 0) (c := 10) (S := S)  (show -2147483648 ≤ q ∧ q < 2147483648 from by omega) (show -2147483648 ≤ (0 : Int) ∧ (0 : Int) < 2147483648 from by omega) (show -2147483648 ≤ (10 : Int) ∧ (10 : Int) < 2147483648 from by omega))) (by decide) rfl rfl (Nat.le_of_ble_eq_true rfl) (fun q => absurd rfl q) rfl rfl ?_
        refine r_if_eq1 (pc' := 43) rfl rfl (by decide) (by decide) ?_
        refine r_const (pc' := 45) rfl rfl ?_
        refine q_iret rfl rfl rfl ?_
        exact ⟨by rw [if_pos (by omega), if_neg (by omega)], rfl⟩
    · skip
      refine q_callE (pc' := 20) (w := some (.inl 0)) (S2 := S) (st' := [.inl 0]) rfl rfl rfl (bi_neg h3 (c_X11_in (a := m) (b := 0) (c := 8) (S := S)  (show -2147483648 ≤ m ∧ m < 2147483648 from by omega) (show -2147483648 ≤ (0 : Int) ∧ (0 : Int) < 2147483648 from by omega) (show -2147483648 ≤ (8 : Int) ∧ (8 : Int) < 2147483648 from by omega))) (by decide) rfl rfl (Nat.le_of_ble_eq_true rfl) (fun q => absurd rfl q) rfl rfl ?_
      refine r_if_eq1 (pc' := 43) rfl rfl (by decide) (by decide) ?_
      refine r_const (pc' := 45) rfl rfl ?_
      refine q_iret rfl rfl rfl ?_
      exact ⟨by rw [if_pos (by omega), if_neg (by omega)], rfl⟩
  · skip
    refine q_callE (pc' := 5) (w := some (.inl 0)) (S2 := S) (st' := [.inl 0]) rfl rfl rfl (bi_neg h2 (c_X11_isField (f := f) (S := S) hB (show -2147483648 ≤ f ∧ f < 2147483648 from by omega))) (by decide) rfl rfl (Nat.le_of_ble_eq_true rfl) (fun _ _ => ⟨_, _, rfl, rfl⟩) rfl rfl ?_
    refine r_if_ne0 (pc' := 8) rfl rfl (by decide) (by decide) ?_
    refine r_const (pc' := 10) rfl rfl ?_
    refine q_iret rfl rfl rfl ?_
    exact ⟨by rw [if_neg (by omega)], rfl⟩
