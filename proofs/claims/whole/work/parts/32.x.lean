noncomputable def bg0 (S : rS) : rS := fl S 236 (fun kk => if kk < 7 then mx_shl 1 (S 233 (22 + kk)) - 1 else 0) 12
theorem bg0_b {S : rS} (hB : Bd S) {k : Int} (h0 : 0 ≤ k) (h1 : k < 12) : bd_lo 236 k ≤ (if k < 7 then mx_shl 1 (S 233 (22 + k)) - 1 else 0) ∧ (if k < 7 then mx_shl 1 (S 233 (22 + k)) - 1 else 0) ≤ bd_hi 236 k := by
  have q := bdc_233_22 hB k
  by_cases h : k < 7
  · rw [if_pos h, show k = 0 + k by omega, (bdi_236_0 (x := k) (by omega)).1, (bdi_236_0 (x := k) (by omega)).2, Int.zero_add]
    exact lsb (by omega)
  · rw [if_neg h]
    rcases (show k = 7 ∨ k = 8 ∨ k = 9 ∨ k = 10 ∨ k = 11 by omega) with e | e | e | e | e <;> subst e <;> exact ⟨by decide, by decide⟩
theorem Bd_bg0 {S : rS} (hB : Bd S) : Bd (bg0 S) := Bd_fl hB (fun k h0 h1 => bg0_b hB h0 h1)
theorem bg0_o {S : rS} {a j : Int} (h : ¬ a = 236) : bg0 S a j = S a j := fl_o h
noncomputable def wM1 (S : rS) : Int → Int → Int := pr 7 7 0 IW (wM (bg0 S))
noncomputable def wM2 (S : rS) (g : Int) : Int → Int → Int := fo (gts (fun kk => S 233 (86 + kk)) (fun kk => S 233 (95 + kk)) (fun kk => S 233 (104 + kk))) (wM1 S) g.toNat
noncomputable def begS (S : rS) : rS := mx_up (mx_up (mx_up (mx_up (mtM (bg0 S) (FWk 7 (wM2 S (S 233 85)) 7)) 232 5 0) 239 0 0) 239 1 0) 232 11 0
theorem wok_M1 {S : rS} (hB : Bd S) : wok 7 (wM1 S) := by
  refine ⟨bnd_pr (bnd_wM (Bd_bg0 hB)) (fun x y _ _ _ _ => IW_b x y), fun x h0 h1 => ?_⟩
  unfold wM1 pr IW
  rw [if_pos (by omega), if_pos rfl]
theorem gcl {k n : Int} (hk : 0 ≤ k ∧ k < n) : (if 0 ≤ k ∧ k < n then k else 0) = k := if_pos hk
theorem gts_cg {f t m f' t' m' : Int → Int} {k : Int} {s : Int → Int → Int} (h1 : f' k = f k) (h2 : t' k = t k) (h3 : m' k = m k) : gts f t m k s = gts f' t' m' k s := by
  unfold gts; rw [h1, h2, h3]
/-- gates one knows: within their bounds -/
theorem wok_gN {n N : Int} {f t m : Int → Int} {W : Int → Int → Int} (hn : n ≤ 7) (hW : wok n W) (hm : ∀ k, 0 ≤ k → k < N → 0 ≤ m k) (hf : ∀ k, 0 ≤ k → k < N → 0 ≤ f k ∧ f k < 7) (ht : ∀ k, 0 ≤ k → k < N → 0 ≤ t k ∧ t k < 7) {g : Int} (hg : g ≤ N) : wok n (fo (gts f t m) W g.toNat) := by
  have e : fo (gts f t m) W g.toNat = fo (gts (fun k => if 0 ≤ k ∧ k < N then f k else 0) (fun k => if 0 ≤ k ∧ k < N then t k else 0) (fun k => if 0 ≤ k ∧ k < N then m k else 0)) W g.toNat := fo_cg g (fun k s h0 h1 => by
    exact gts_cg (if_pos (by omega)) (if_pos (by omega)) (if_pos (by omega)))
  rw [e]
  refine wok_g hn hW (fun k => ?_) (fun k => ?_) (fun k => ?_) _
  · split
    · rename_i q; exact hm k q.1 q.2
    · omega
  · split
    · rename_i q; exact hf k q.1 q.2
    · omega
  · split
    · rename_i q; exact ht k q.1 q.2
    · omega
theorem wok_M2 {S : rS} (hB : Bd S) {g : Int} (hg : g ≤ 9) : wok 7 (wM2 S g) :=
  wok_gN (N := 9) (by omega) (wok_M1 hB) (fun k h0 h1 => (bdc_233_104 hB k).1) (fun k h0 h1 => by have q := bdc_233_86 hB k; omega) (fun k h0 h1 => by have q := bdc_233_95 hB k; omega) hg
theorem wok_M3 {S : rS} (hB : Bd S) {o : Int} (ho : 0 ≤ o ∧ o ≤ 7) : wok 7 (FWk 7 (wM2 S (S 233 85)) o) := by
  have b : 0 ≤ S 233 85 ∧ S 233 85 ≤ 9 := hB 233 85
  exact wok_F (by omega) (wok_M2 hB b.2) _ (by omega)
theorem Bd_begS {S : rS} (hB : Bd S) : Bd (begS S) := by
  have z : (0 : Int) ≤ 0 := Int.le_refl _
  unfold begS
  exact Bd_up (Bd_up (Bd_up (Bd_up (Bd_mtM (Bd_bg0 hB) (wok_M3 hB (by omega)).1) z (show (0 : Int) ≤ 8 by omega)) z (show (0 : Int) ≤ 1 by omega)) z (show (0 : Int) ≤ 1 by omega)) z (show (0 : Int) ≤ 6 by omega)
theorem begS_o {S : rS} {a j : Int} (h : ¬ (a = 235 ∨ a = 236 ∨ a = 239 ∨ a = 232 ∧ (j = 5 ∨ j = 11))) : begS S a j = S a j := by
  unfold begS
  rw [up_ne (by omega), up_ne (by omega), up_ne (by omega), up_ne (by omega), mtM_o (by omega), bg0_o (by omega)]
theorem c_X11_begins {S : rS} (hB : Bd S) : CS 2 60 [.inr (.inr 232)] S (fun r' S' => r' = none ∧ S' = begS S) := by
  refine RS.beg (ls := [some (.inr (.inr 232)), none, none, none, none]) rfl rfl rfl rfl rfl ?_
  have n6 : 0 ≤ S 233 85 ∧ S 233 85 ≤ 9 := hB 233 85
  refine r_const (pc' := 1) rfl rfl ?_
  refine r_istore (pc' := 2) (ls' := [some (.inr (.inr 232)), some (.inl 0), none, none, none]) rfl rfl rfl rfl ?_
  refine r_mem (show S = fl S 236 (fun kk => if kk < 7 then mx_shl 1 (S 233 (22 + kk)) - 1 else 0) (0 : Int) from by exact fl_0 S _ _) ?_
  refine r_while (α := Int) (fun z' => [some (.inr (.inr 232)), some (.inl z'), none, none, none]) (fun z' => fl S 236 (fun kk => if kk < 7 then mx_shl 1 (S 233 (22 + kk)) - 1 else 0) z') (fun z' => (0 ≤ z' ∧ z' ≤ 12)) (fun z' => (12 - z').toNat) ?_ 0 (show (0 ≤ (0 : Int) ∧ (0 : Int) ≤ 12) from by omega)
  rintro k hI' ih2
  have hI' : (0 ≤ k ∧ k ≤ 12) := hI'
  have i0 := hI'
  show RS _ _ _ _ [some (.inr (.inr 232)), some (.inl k), none, none, none] [] (fl S 236 (fun kk => if kk < 7 then mx_shl 1 (S 233 (22 + kk)) - 1 else 0) k)
  have hB1 : Bd (fl S 236 (fun kk => if kk < 7 then mx_shl 1 (S 233 (22 + kk)) - 1 else 0) k) := by exact Bd_fl hB (fun k h0 h1 => bg0_b hB h0 (by omega))
  refine r_iload (pc' := 3) rfl rfl rfl ?_
  refine r_const (pc' := 5) rfl rfl ?_
  by_cases h2 : k < 12
  · refine r_icmp_ge0 (pc' := 8) rfl rfl (by omega) (by omega) ?_
    refine r_aload (pc' := 9) rfl rfl rfl ?_
    refine r_getr (pc' := 12) (v := 236) rfl rfl rfl rfl rfl ?_
    refine r_iload (pc' := 13) rfl rfl rfl ?_
    refine r_iload (pc' := 14) rfl rfl rfl ?_
    refine r_const (pc' := 16) rfl rfl ?_
    by_cases h3 : k < 7
    · refine r_icmp_ge0 (pc' := 19) rfl rfl (by omega) (by omega) ?_
      refine r_const (pc' := 20) rfl rfl ?_
      refine r_aload (pc' := 21) rfl rfl rfl ?_
      refine r_getr (pc' := 24) (v := 233) rfl rfl rfl rfl rfl ?_
      refine r_const (pc' := 26) rfl rfl ?_
      refine r_iload (pc' := 27) rfl rfl rfl ?_
      refine r_iadd (pc' := 28) rfl rfl ?_
      refine r_aldv (pc' := 29) (v := (S 233 (22 + k))) 187 rfl rfl rfl (by omega) (fl_o (by omega)) ?_
      have b4 := bdc_233_22 hB k
      refine r_ishl (pc' := 30) rfl rfl ?_
      have b5 := mx_shl_r 1 (S 233 (22 + k))
      refine r_const (pc' := 31) rfl rfl ?_
      refine r_isub (pc' := 32) rfl rfl ?_
      refine r_goto (pc' := 36) rfl rfl ?_
      refine r_ast (pc' := 37) 12 rfl rfl rfl (by omega) ?_
      refine r_iinc (pc' := 40) (ls' := [some (.inr (.inr 232)), some (.inl (k + 1)), none, none, none]) rfl rfl rfl rfl rfl ?_
      refine r_goto (pc' := 2) rfl rfl ?_
      refine r_mem (show mx_up (fl S 236 (fun kk => if kk < 7 then mx_shl 1 (S 233 (22 + kk)) - 1 else 0) k) 236 k ((mx_shl 1 (S 233 (22 + k))) - 1) = fl S 236 (fun kk => if kk < 7 then mx_shl 1 (S 233 (22 + kk)) - 1 else 0) (k + 1) from by exact fl_s (by omega) (if_pos (by omega)).symm) ?_
      exact ih2 (k + 1) (show (0 ≤ (k + 1) ∧ (k + 1) ≤ 12) from by omega) (show (12 - (k + 1)).toNat < (12 - k).toNat from by omega)
    · refine r_icmp_ge1 (pc' := 35) rfl rfl (by omega) (by omega) ?_
      refine r_const (pc' := 36) rfl rfl ?_
      refine r_ast (pc' := 37) 12 rfl rfl rfl (by omega) ?_
      refine r_iinc (pc' := 40) (ls' := [some (.inr (.inr 232)), some (.inl (k + 1)), none, none, none]) rfl rfl rfl rfl rfl ?_
      refine r_goto (pc' := 2) rfl rfl ?_
      refine r_mem (show mx_up (fl S 236 (fun kk => if kk < 7 then mx_shl 1 (S 233 (22 + kk)) - 1 else 0) k) 236 k 0 = fl S 236 (fun kk => if kk < 7 then mx_shl 1 (S 233 (22 + kk)) - 1 else 0) (k + 1) from by exact fl_s (by omega) (if_neg (by omega)).symm) ?_
      exact ih2 (k + 1) (show (0 ≤ (k + 1) ∧ (k + 1) ≤ 12) from by omega) (show (12 - (k + 1)).toNat < (12 - k).toNat from by omega)
  · refine r_icmp_ge1 (pc' := 43) rfl rfl (by omega) (by omega) ?_
    refine r_const (pc' := 44) rfl rfl ?_
    refine r_istore (pc' := 45) (ls' := [some (.inr (.inr 232)), some (.inl 0), none, none, none]) rfl rfl rfl rfl ?_
    refine r_mem (show (fl S 236 (fun kk => if kk < 7 then mx_shl 1 (S 233 (22 + kk)) - 1 else 0) k) = mtM (bg0 S) (pr 7 ((0 : Int) / 7) ((0 : Int) % 7) IW (wM (bg0 S))) from by rw [show k = 12 by omega]; exact (mtM_0 (bg0 S)).trans (congrArg (mtM (bg0 S)) (pr_0 _ _ _))) ?_
    refine r_while (α := Int) (fun z' => [some (.inr (.inr 232)), some (.inl z'), none, none, none]) (fun z' => mtM (bg0 S) (pr 7 (z' / 7) (z' % 7) IW (wM (bg0 S)))) (fun z' => (0 ≤ z' ∧ z' ≤ 49)) (fun z' => (49 - z').toNat) ?_ 0 (show (0 ≤ (0 : Int) ∧ (0 : Int) ≤ 49) from by omega)
    rintro x hI' ih45
    have hI' : (0 ≤ x ∧ x ≤ 49) := hI'
    have i1 := hI'
    show RS _ _ _ _ [some (.inr (.inr 232)), some (.inl x), none, none, none] [] (mtM (bg0 S) (pr 7 (x / 7) (x % 7) IW (wM (bg0 S))))
    refine r_iload (pc' := 46) rfl rfl rfl ?_
    refine r_const (pc' := 48) rfl rfl ?_
    by_cases h6 : x < 49
    · refine r_icmp_ge0 (pc' := 51) rfl rfl (by omega) (by omega) ?_
      refine r_aload (pc' := 52) rfl rfl rfl ?_
      refine r_getr (pc' := 55) (v := 235) rfl rfl rfl rfl rfl ?_
      refine r_iload (pc' := 56) rfl rfl rfl ?_
      refine r_iload (pc' := 57) rfl rfl rfl ?_
      refine r_const (pc' := 59) rfl rfl ?_
      refine r_irem (pc' := 60) rfl rfl (by omega) ?_
      by_cases h7 : (x % 8) = 0
      · refine r_if_ne0 (pc' := 63) rfl rfl (by omega) (by omega) ?_
        refine r_const (pc' := 64) rfl rfl ?_
        refine r_goto (pc' := 69) rfl rfl ?_
        refine r_ast (pc' := 70) 49 rfl rfl rfl (by omega) ?_
        refine r_iinc (pc' := 73) (ls' := [some (.inr (.inr 232)), some (.inl (x + 1)), none, none, none]) rfl rfl rfl rfl rfl ?_
        refine r_goto (pc' := 45) rfl rfl ?_
        refine r_mem (show mx_up (mtM (bg0 S) (pr 7 (x / 7) (x % 7) IW (wM (bg0 S)))) 235 x 0 = mtM (bg0 S) (pr 7 ((x + 1) / 7) ((x + 1) % 7) IW (wM (bg0 S))) from by rw [mtM_u (a := x / 7) (b := x % 7) (by omega) (by omega) (by omega)]; exact congrArg (mtM (bg0 S)) (pr_k (by omega) (by unfold IW; rw [if_pos (by omega)]))) ?_
        exact ih45 (x + 1) (show (0 ≤ (x + 1) ∧ (x + 1) ≤ 49) from by omega) (show (49 - (x + 1)).toNat < (49 - x).toNat from by omega)
      · refine r_if_ne1 (pc' := 67) rfl rfl (by omega) (by omega) ?_
        refine r_const (pc' := 69) rfl rfl ?_
        refine r_ast (pc' := 70) 49 rfl rfl rfl (by omega) ?_
        refine r_iinc (pc' := 73) (ls' := [some (.inr (.inr 232)), some (.inl (x + 1)), none, none, none]) rfl rfl rfl rfl rfl ?_
        refine r_goto (pc' := 45) rfl rfl ?_
        refine r_mem (show mx_up (mtM (bg0 S) (pr 7 (x / 7) (x % 7) IW (wM (bg0 S)))) 235 x 1000000 = mtM (bg0 S) (pr 7 ((x + 1) / 7) ((x + 1) % 7) IW (wM (bg0 S))) from by rw [mtM_u (a := x / 7) (b := x % 7) (by omega) (by omega) (by omega)]; exact congrArg (mtM (bg0 S)) (pr_k (by omega) (by unfold IW; rw [if_neg (by omega)]))) ?_
        exact ih45 (x + 1) (show (0 ≤ (x + 1) ∧ (x + 1) ≤ 49) from by omega) (show (49 - (x + 1)).toNat < (49 - x).toNat from by omega)
    · refine r_icmp_ge1 (pc' := 76) rfl rfl (by omega) (by omega) ?_
      refine r_const (pc' := 77) rfl rfl ?_
      refine r_istore (pc' := 78) (ls' := [some (.inr (.inr 232)), some (.inl 0), none, none, none]) rfl rfl rfl rfl ?_
      refine r_mem (show (mtM (bg0 S) (pr 7 (x / 7) (x % 7) IW (wM (bg0 S)))) = mtM (bg0 S) (wM2 S (0 : Int)) from by rw [show x = 49 by omega]; rfl) ?_
      refine r_while (α := Int) (fun z' => [some (.inr (.inr 232)), some (.inl z'), none, none, none]) (fun z' => mtM (bg0 S) (wM2 S z')) (fun z' => (0 ≤ z' ∧ z' ≤ S 233 85)) (fun z' => (S 233 85 - z').toNat) ?_ 0 (show (0 ≤ (0 : Int) ∧ (0 : Int) ≤ S 233 85) from by omega)
      rintro g hI' ih78
      have hI' : (0 ≤ g ∧ g ≤ S 233 85) := hI'
      have i3 := hI'
      show RS _ _ _ _ [some (.inr (.inr 232)), some (.inl g), none, none, none] [] (mtM (bg0 S) (wM2 S g))
      have c86 := bdc_233_86 hB g
      have c95 := bdc_233_95 hB g
      have c104 := bdc_233_104 hB g
      have b8 : 0 ≤ S 233 85 ∧ S 233 85 ≤ 9 := hB 233 85
      have hB9 : Bd (mtM (bg0 S) (wM2 S g)) := by exact Bd_mtM (Bd_bg0 hB) (wok_M2 hB (by omega)).1
      refine r_iload (pc' := 79) rfl rfl rfl ?_
      refine r_aload (pc' := 80) rfl rfl rfl ?_
      refine r_getr (pc' := 83) (v := 233) rfl rfl rfl rfl rfl ?_
      refine r_const (pc' := 85) rfl rfl ?_
      refine r_aldv (pc' := 86) (v := (S 233 85)) 187 rfl rfl rfl (by omega) ((mtM_o (by omega)).trans (bg0_o (by omega))) ?_
      by_cases h10 : g < (S 233 85)
      · refine r_icmp_ge0 (pc' := 89) rfl rfl (by omega) (by omega) ?_
        refine r_aload (pc' := 90) rfl rfl rfl ?_
        refine r_getr (pc' := 93) (v := 233) rfl rfl rfl rfl rfl ?_
        refine r_const (pc' := 95) rfl rfl ?_
        refine r_iload (pc' := 96) rfl rfl rfl ?_
        refine r_iadd (pc' := 97) rfl rfl ?_
        refine r_aldv (pc' := 98) (v := (S 233 (86 + g))) 187 rfl rfl rfl (by omega) ((mtM_o (by omega)).trans (bg0_o (by omega))) ?_
        have b11 := bdc_233_86 hB g
        refine r_istore (pc' := 99) (ls' := [some (.inr (.inr 232)), some (.inl g), some (.inl (S 233 (86 + g))), none, none]) rfl rfl rfl rfl ?_
        refine r_aload (pc' := 100) rfl rfl rfl ?_
        refine r_getr (pc' := 103) (v := 233) rfl rfl rfl rfl rfl ?_
        refine r_const (pc' := 105) rfl rfl ?_
        refine r_iload (pc' := 106) rfl rfl rfl ?_
        refine r_iadd (pc' := 107) rfl rfl ?_
        refine r_aldv (pc' := 108) (v := (S 233 (95 + g))) 187 rfl rfl rfl (by omega) ((mtM_o (by omega)).trans (bg0_o (by omega))) ?_
        have b12 := bdc_233_95 hB g
        refine r_istore (pc' := 109) (ls' := [some (.inr (.inr 232)), some (.inl g), some (.inl (S 233 (86 + g))), some (.inl (S 233 (95 + g))), none]) rfl rfl rfl rfl ?_
        have z0 : 0 ≤ (mtM (bg0 S) (wM2 S g)) 235 (7 * (S 233 (86 + g)) + (S 233 (95 + g))) ∧ (mtM (bg0 S) (wM2 S g)) 235 (7 * (S 233 (86 + g)) + (S 233 (95 + g))) ≤ 1000000 := hB9 235 (7 * (S 233 (86 + g)) + (S 233 (95 + g)))
        refine r_aload (pc' := 110) rfl rfl rfl ?_
        refine r_getr (pc' := 113) (v := 235) rfl rfl rfl rfl rfl ?_
        refine r_const (pc' := 115) rfl rfl ?_
        refine r_iload (pc' := 116) rfl rfl rfl ?_
        refine r_imul (pc' := 117) rfl rfl ?_
        refine r_iload (pc' := 118) rfl rfl rfl ?_
        refine r_iadd (pc' := 119) rfl rfl ?_
        refine r_aldv (pc' := 120) (v := ((mtM (bg0 S) (wM2 S g)) 235 ((7 * (S 233 (86 + g))) + (S 233 (95 + g))))) 49 rfl rfl rfl (by omega) rfl ?_
        refine r_aload (pc' := 121) rfl rfl rfl ?_
        refine r_getr (pc' := 124) (v := 233) rfl rfl rfl rfl rfl ?_
        refine r_const (pc' := 126) rfl rfl ?_
        refine r_iload (pc' := 127) rfl rfl rfl ?_
        refine r_iadd (pc' := 128) rfl rfl ?_
        refine r_aldv (pc' := 129) (v := (S 233 (104 + g))) 187 rfl rfl rfl (by omega) ((mtM_o (by omega)).trans (bg0_o (by omega))) ?_
        have b13 := bdc_233_104 hB g
        refine q_callE (pc' := 132) (w := some (.inl (mx_min (S 233 (104 + g)) ((mtM (bg0 S) (wM2 S g)) 235 ((7 * (S 233 (86 + g))) + (S 233 (95 + g))))))) (S2 := (mtM (bg0 S) (wM2 S g))) (st' := [.inl (mx_min (S 233 (104 + g)) ((mtM (bg0 S) (wM2 S g)) 235 ((7 * (S 233 (86 + g))) + (S 233 (95 + g)))))]) rfl rfl rfl (c_X11_lesser (a := ((mtM (bg0 S) (wM2 S g)) 235 ((7 * (S 233 (86 + g))) + (S 233 (95 + g))))) (b := (S 233 (104 + g))) (S := (mtM (bg0 S) (wM2 S g)))  (show -2147483648 ≤ ((mtM (bg0 S) (wM2 S g)) 235 ((7 * (S 233 (86 + g))) + (S 233 (95 + g)))) ∧ ((mtM (bg0 S) (wM2 S g)) 235 ((7 * (S 233 (86 + g))) + (S 233 (95 + g)))) < 2147483648 from by omega) (show -2147483648 ≤ (S 233 (104 + g)) ∧ (S 233 (104 + g)) < 2147483648 from by omega)) (by decide) rfl rfl (Nat.le_of_ble_eq_true rfl) (fun q => absurd rfl q) rfl rfl ?_
        have b14 : ((mx_min (S 233 (104 + g)) ((mtM (bg0 S) (wM2 S g)) 235 ((7 * (S 233 (86 + g))) + (S 233 (95 + g))))) = (S 233 (104 + g)) ∨ (mx_min (S 233 (104 + g)) ((mtM (bg0 S) (wM2 S g)) 235 ((7 * (S 233 (86 + g))) + (S 233 (95 + g))))) = ((mtM (bg0 S) (wM2 S g)) 235 ((7 * (S 233 (86 + g))) + (S 233 (95 + g))))) ∧ (mx_min (S 233 (104 + g)) ((mtM (bg0 S) (wM2 S g)) 235 ((7 * (S 233 (86 + g))) + (S 233 (95 + g))))) ≤ (S 233 (104 + g)) ∧ (mx_min (S 233 (104 + g)) ((mtM (bg0 S) (wM2 S g)) 235 ((7 * (S 233 (86 + g))) + (S 233 (95 + g))))) ≤ ((mtM (bg0 S) (wM2 S g)) 235 ((7 * (S 233 (86 + g))) + (S 233 (95 + g)))) := mx_min_b _ _
        refine r_istore (pc' := 134) (ls' := [some (.inr (.inr 232)), some (.inl g), some (.inl (S 233 (86 + g))), some (.inl (S 233 (95 + g))), some (.inl (mx_min (S 233 (104 + g)) ((mtM (bg0 S) (wM2 S g)) 235 ((7 * (S 233 (86 + g))) + (S 233 (95 + g))))))]) rfl rfl rfl rfl ?_
        refine r_aload (pc' := 135) rfl rfl rfl ?_
        refine r_getr (pc' := 138) (v := 235) rfl rfl rfl rfl rfl ?_
        refine r_const (pc' := 140) rfl rfl ?_
        refine r_iload (pc' := 141) rfl rfl rfl ?_
        refine r_imul (pc' := 142) rfl rfl ?_
        refine r_iload (pc' := 143) rfl rfl rfl ?_
        refine r_iadd (pc' := 144) rfl rfl ?_
        refine r_iload (pc' := 146) rfl rfl rfl ?_
        refine r_ast (pc' := 147) 49 rfl rfl rfl (by omega) ?_
        refine r_aload (pc' := 148) rfl rfl rfl ?_
        refine r_getr (pc' := 151) (v := 235) rfl rfl rfl rfl rfl ?_
        refine r_const (pc' := 153) rfl rfl ?_
        refine r_iload (pc' := 154) rfl rfl rfl ?_
        refine r_imul (pc' := 155) rfl rfl ?_
        refine r_iload (pc' := 156) rfl rfl rfl ?_
        refine r_iadd (pc' := 157) rfl rfl ?_
        refine r_iload (pc' := 159) rfl rfl rfl ?_
        refine r_ast (pc' := 160) 49 rfl rfl rfl (by omega) ?_
        refine r_iinc (pc' := 163) (ls' := [some (.inr (.inr 232)), some (.inl (g + 1)), some (.inl (S 233 (86 + g))), some (.inl (S 233 (95 + g))), some (.inl (mx_min (S 233 (104 + g)) ((mtM (bg0 S) (wM2 S g)) 235 ((7 * (S 233 (86 + g))) + (S 233 (95 + g))))))]) rfl rfl rfl rfl rfl ?_
        refine r_goto (pc' := 78) rfl rfl ?_
        refine r_forget [true, true, false, false, false] rfl ?_
        refine r_mem (show mx_up (mx_up (mtM (bg0 S) (wM2 S g)) 235 ((7 * (S 233 (86 + g))) + (S 233 (95 + g))) (mx_min (S 233 (104 + g)) ((mtM (bg0 S) (wM2 S g)) 235 ((7 * (S 233 (86 + g))) + (S 233 (95 + g)))))) 235 ((7 * (S 233 (95 + g))) + (S 233 (86 + g))) (mx_min (S 233 (104 + g)) ((mtM (bg0 S) (wM2 S g)) 235 ((7 * (S 233 (86 + g))) + (S 233 (95 + g))))) = mtM (bg0 S) (wM2 S (g + 1)) from by rw [mtM_u (a := S 233 (86 + g)) (b := S 233 (95 + g)) (by omega) (by omega) (by omega), mtM_u (a := S 233 (95 + g)) (b := S 233 (86 + g)) (by omega) (by omega) (by omega), mtM_r (a := S 233 (86 + g)) (b := S 233 (95 + g)) (by omega) (by omega) (by omega), mx_min_c]; exact congrArg (mtM (bg0 S)) (fo_s (f := gts (fun kk => S 233 (86 + kk)) (fun kk => S 233 (95 + kk)) (fun kk => S 233 (104 + kk))) (a := wM1 S) (by omega)).symm) ?_
        exact ih78 (g + 1) (show (0 ≤ (g + 1) ∧ (g + 1) ≤ S 233 85) from by omega) (show (S 233 85 - (g + 1)).toNat < (S 233 85 - g).toNat from by omega)
      · refine r_icmp_ge1 (pc' := 166) rfl rfl (by omega) (by omega) ?_
        refine r_const (pc' := 167) rfl rfl ?_
        refine r_istore (pc' := 168) (ls' := [some (.inr (.inr 232)), some (.inl 0), none, none, none]) rfl rfl rfl rfl ?_
        refine r_mem (show (mtM (bg0 S) (wM2 S g)) = mtM (bg0 S) (FWk 7 (wM2 S (S 233 85)) (0 : Int)) from by rw [show g = S 233 85 by omega]; rfl) ?_
        refine r_while (α := Int) (fun z' => [some (.inr (.inr 232)), some (.inl z'), none, none, none]) (fun z' => mtM (bg0 S) (FWk 7 (wM2 S (S 233 85)) z')) (fun z' => (0 ≤ z' ∧ z' ≤ 7)) (fun z' => (7 - z').toNat) ?_ 0 (show (0 ≤ (0 : Int) ∧ (0 : Int) ≤ 7) from by omega)
        rintro o hI' ih168
        have hI' : (0 ≤ o ∧ o ≤ 7) := hI'
        have i4 := hI'
        show RS _ _ _ _ [some (.inr (.inr 232)), some (.inl o), none, none, none] [] (mtM (bg0 S) (FWk 7 (wM2 S (S 233 85)) o))
        have hB15 : Bd (mtM (bg0 S) (FWk 7 (wM2 S (S 233 85)) o)) := by exact Bd_mtM (Bd_bg0 hB) (wok_M3 hB (by omega)).1
        refine r_iload (pc' := 169) rfl rfl rfl ?_
        refine r_const (pc' := 171) rfl rfl ?_
        by_cases h16 : o < 7
        · refine r_icmp_ge0 (pc' := 174) rfl rfl (by omega) (by omega) ?_
          refine r_const (pc' := 175) rfl rfl ?_
          refine r_istore (pc' := 176) (ls' := [some (.inr (.inr 232)), some (.inl o), some (.inl 0), none, none]) rfl rfl rfl rfl ?_
          refine r_mem (show (mtM (bg0 S) (FWk 7 (wM2 S (S 233 85)) o)) = mtM (bg0 S) (pr 7 ((0 : Int) / 7) ((0 : Int) % 7) (SW o (FWk 7 (wM2 S (S 233 85)) o)) (FWk 7 (wM2 S (S 233 85)) o)) from by exact congrArg (mtM (bg0 S)) (pr_0 _ _ _)) ?_
          refine r_while (α := Int) (fun z' => [some (.inr (.inr 232)), some (.inl o), some (.inl z'), none, none]) (fun z' => mtM (bg0 S) (pr 7 (z' / 7) (z' % 7) (SW o (FWk 7 (wM2 S (S 233 85)) o)) (FWk 7 (wM2 S (S 233 85)) o))) (fun z' => (0 ≤ z' ∧ z' ≤ 49)) (fun z' => (49 - z').toNat) ?_ 0 (show (0 ≤ (0 : Int) ∧ (0 : Int) ≤ 49) from by omega)
          rintro y hI' ih176
          have hI' : (0 ≤ y ∧ y ≤ 49) := hI'
          have i5 := hI'
          show RS _ _ _ _ [some (.inr (.inr 232)), some (.inl o), some (.inl y), none, none] [] (mtM (bg0 S) (pr 7 (y / 7) (y % 7) (SW o (FWk 7 (wM2 S (S 233 85)) o)) (FWk 7 (wM2 S (S 233 85)) o)))
          have hB17 : Bd (mtM (bg0 S) (pr 7 (y / 7) (y % 7) (SW o (FWk 7 (wM2 S (S 233 85)) o)) (FWk 7 (wM2 S (S 233 85)) o))) := by exact Bd_mtM (Bd_bg0 hB) (bnd_pr (wok_M3 hB (by omega)).1 (fun x y h0 h1 _ _ => bnd_SW (n := 7) (wok_M3 hB (by omega)).1 (by omega) x y h0 h1))
          refine r_iload (pc' := 177) rfl rfl rfl ?_
          refine r_const (pc' := 179) rfl rfl ?_
          by_cases h18 : y < 49
          · refine r_icmp_ge0 (pc' := 182) rfl rfl (by omega) (by omega) ?_
            have z0 : 0 ≤ (mtM (bg0 S) (pr 7 (y / 7) (y % 7) (SW o (FWk 7 (wM2 S (S 233 85)) o)) (FWk 7 (wM2 S (S 233 85)) o))) 235 (y) ∧ (mtM (bg0 S) (pr 7 (y / 7) (y % 7) (SW o (FWk 7 (wM2 S (S 233 85)) o)) (FWk 7 (wM2 S (S 233 85)) o))) 235 (y) ≤ 1000000 := hB17 235 (y)
            have z1 : 0 ≤ (mtM (bg0 S) (pr 7 (y / 7) (y % 7) (SW o (FWk 7 (wM2 S (S 233 85)) o)) (FWk 7 (wM2 S (S 233 85)) o))) 235 (y / 7 * 7 + o) ∧ (mtM (bg0 S) (pr 7 (y / 7) (y % 7) (SW o (FWk 7 (wM2 S (S 233 85)) o)) (FWk 7 (wM2 S (S 233 85)) o))) 235 (y / 7 * 7 + o) ≤ 1000000 := hB17 235 (y / 7 * 7 + o)
            have z2 : 0 ≤ (mtM (bg0 S) (pr 7 (y / 7) (y % 7) (SW o (FWk 7 (wM2 S (S 233 85)) o)) (FWk 7 (wM2 S (S 233 85)) o))) 235 (7 * o + y % 7) ∧ (mtM (bg0 S) (pr 7 (y / 7) (y % 7) (SW o (FWk 7 (wM2 S (S 233 85)) o)) (FWk 7 (wM2 S (S 233 85)) o))) 235 (7 * o + y % 7) ≤ 1000000 := hB17 235 (7 * o + y % 7)
            refine r_aload (pc' := 183) rfl rfl rfl ?_
            refine r_getr (pc' := 186) (v := 235) rfl rfl rfl rfl rfl ?_
            refine r_iload (pc' := 187) rfl rfl rfl ?_
            refine r_aload (pc' := 188) rfl rfl rfl ?_
            refine r_getr (pc' := 191) (v := 235) rfl rfl rfl rfl rfl ?_
            refine r_iload (pc' := 192) rfl rfl rfl ?_
            refine r_aldv (pc' := 193) (v := ((mtM (bg0 S) (pr 7 (y / 7) (y % 7) (SW o (FWk 7 (wM2 S (S 233 85)) o)) (FWk 7 (wM2 S (S 233 85)) o))) 235 y)) 49 rfl rfl rfl (by omega) rfl ?_
            refine r_aload (pc' := 194) rfl rfl rfl ?_
            refine r_getr (pc' := 197) (v := 235) rfl rfl rfl rfl rfl ?_
            refine r_iload (pc' := 198) rfl rfl rfl ?_
            refine r_const (pc' := 200) rfl rfl ?_
            refine r_idiv (pc' := 201) rfl rfl (by omega) ?_
            refine r_const (pc' := 203) rfl rfl ?_
            refine r_imul (pc' := 204) rfl rfl ?_
            refine r_iload (pc' := 205) rfl rfl rfl ?_
            refine r_iadd (pc' := 206) rfl rfl ?_
            refine r_aldv (pc' := 207) (v := ((mtM (bg0 S) (pr 7 (y / 7) (y % 7) (SW o (FWk 7 (wM2 S (S 233 85)) o)) (FWk 7 (wM2 S (S 233 85)) o))) 235 (((y / 7) * 7) + o))) 49 rfl rfl rfl (by omega) rfl ?_
            refine r_aload (pc' := 208) rfl rfl rfl ?_
            refine r_getr (pc' := 211) (v := 235) rfl rfl rfl rfl rfl ?_
            refine r_const (pc' := 213) rfl rfl ?_
            refine r_iload (pc' := 214) rfl rfl rfl ?_
            refine r_imul (pc' := 215) rfl rfl ?_
            refine r_iload (pc' := 216) rfl rfl rfl ?_
            refine r_const (pc' := 218) rfl rfl ?_
            refine r_irem (pc' := 219) rfl rfl (by omega) ?_
            refine r_iadd (pc' := 220) rfl rfl ?_
            refine r_aldv (pc' := 221) (v := ((mtM (bg0 S) (pr 7 (y / 7) (y % 7) (SW o (FWk 7 (wM2 S (S 233 85)) o)) (FWk 7 (wM2 S (S 233 85)) o))) 235 ((7 * o) + (y % 7)))) 49 rfl rfl rfl (by omega) rfl ?_
            refine r_iadd (pc' := 222) rfl rfl ?_
            refine q_callE (pc' := 225) (w := some (.inl (mx_min (((mtM (bg0 S) (pr 7 (y / 7) (y % 7) (SW o (FWk 7 (wM2 S (S 233 85)) o)) (FWk 7 (wM2 S (S 233 85)) o))) 235 (((y / 7) * 7) + o)) + ((mtM (bg0 S) (pr 7 (y / 7) (y % 7) (SW o (FWk 7 (wM2 S (S 233 85)) o)) (FWk 7 (wM2 S (S 233 85)) o))) 235 ((7 * o) + (y % 7)))) ((mtM (bg0 S) (pr 7 (y / 7) (y % 7) (SW o (FWk 7 (wM2 S (S 233 85)) o)) (FWk 7 (wM2 S (S 233 85)) o))) 235 y)))) (S2 := (mtM (bg0 S) (pr 7 (y / 7) (y % 7) (SW o (FWk 7 (wM2 S (S 233 85)) o)) (FWk 7 (wM2 S (S 233 85)) o)))) (st' := [.inl (mx_min (((mtM (bg0 S) (pr 7 (y / 7) (y % 7) (SW o (FWk 7 (wM2 S (S 233 85)) o)) (FWk 7 (wM2 S (S 233 85)) o))) 235 (((y / 7) * 7) + o)) + ((mtM (bg0 S) (pr 7 (y / 7) (y % 7) (SW o (FWk 7 (wM2 S (S 233 85)) o)) (FWk 7 (wM2 S (S 233 85)) o))) 235 ((7 * o) + (y % 7)))) ((mtM (bg0 S) (pr 7 (y / 7) (y % 7) (SW o (FWk 7 (wM2 S (S 233 85)) o)) (FWk 7 (wM2 S (S 233 85)) o))) 235 y)), .inl y, .inr (.inr 235)]) rfl rfl rfl (c_X11_lesser (a := ((mtM (bg0 S) (pr 7 (y / 7) (y % 7) (SW o (FWk 7 (wM2 S (S 233 85)) o)) (FWk 7 (wM2 S (S 233 85)) o))) 235 y)) (b := (((mtM (bg0 S) (pr 7 (y / 7) (y % 7) (SW o (FWk 7 (wM2 S (S 233 85)) o)) (FWk 7 (wM2 S (S 233 85)) o))) 235 (((y / 7) * 7) + o)) + ((mtM (bg0 S) (pr 7 (y / 7) (y % 7) (SW o (FWk 7 (wM2 S (S 233 85)) o)) (FWk 7 (wM2 S (S 233 85)) o))) 235 ((7 * o) + (y % 7))))) (S := (mtM (bg0 S) (pr 7 (y / 7) (y % 7) (SW o (FWk 7 (wM2 S (S 233 85)) o)) (FWk 7 (wM2 S (S 233 85)) o))))  (show -2147483648 ≤ ((mtM (bg0 S) (pr 7 (y / 7) (y % 7) (SW o (FWk 7 (wM2 S (S 233 85)) o)) (FWk 7 (wM2 S (S 233 85)) o))) 235 y) ∧ ((mtM (bg0 S) (pr 7 (y / 7) (y % 7) (SW o (FWk 7 (wM2 S (S 233 85)) o)) (FWk 7 (wM2 S (S 233 85)) o))) 235 y) < 2147483648 from by omega) (show -2147483648 ≤ (((mtM (bg0 S) (pr 7 (y / 7) (y % 7) (SW o (FWk 7 (wM2 S (S 233 85)) o)) (FWk 7 (wM2 S (S 233 85)) o))) 235 (((y / 7) * 7) + o)) + ((mtM (bg0 S) (pr 7 (y / 7) (y % 7) (SW o (FWk 7 (wM2 S (S 233 85)) o)) (FWk 7 (wM2 S (S 233 85)) o))) 235 ((7 * o) + (y % 7)))) ∧ (((mtM (bg0 S) (pr 7 (y / 7) (y % 7) (SW o (FWk 7 (wM2 S (S 233 85)) o)) (FWk 7 (wM2 S (S 233 85)) o))) 235 (((y / 7) * 7) + o)) + ((mtM (bg0 S) (pr 7 (y / 7) (y % 7) (SW o (FWk 7 (wM2 S (S 233 85)) o)) (FWk 7 (wM2 S (S 233 85)) o))) 235 ((7 * o) + (y % 7)))) < 2147483648 from by omega)) (by decide) rfl rfl (Nat.le_of_ble_eq_true rfl) (fun q => absurd rfl q) rfl rfl ?_
            have b19 : ((mx_min (((mtM (bg0 S) (pr 7 (y / 7) (y % 7) (SW o (FWk 7 (wM2 S (S 233 85)) o)) (FWk 7 (wM2 S (S 233 85)) o))) 235 (((y / 7) * 7) + o)) + ((mtM (bg0 S) (pr 7 (y / 7) (y % 7) (SW o (FWk 7 (wM2 S (S 233 85)) o)) (FWk 7 (wM2 S (S 233 85)) o))) 235 ((7 * o) + (y % 7)))) ((mtM (bg0 S) (pr 7 (y / 7) (y % 7) (SW o (FWk 7 (wM2 S (S 233 85)) o)) (FWk 7 (wM2 S (S 233 85)) o))) 235 y)) = (((mtM (bg0 S) (pr 7 (y / 7) (y % 7) (SW o (FWk 7 (wM2 S (S 233 85)) o)) (FWk 7 (wM2 S (S 233 85)) o))) 235 (((y / 7) * 7) + o)) + ((mtM (bg0 S) (pr 7 (y / 7) (y % 7) (SW o (FWk 7 (wM2 S (S 233 85)) o)) (FWk 7 (wM2 S (S 233 85)) o))) 235 ((7 * o) + (y % 7)))) ∨ (mx_min (((mtM (bg0 S) (pr 7 (y / 7) (y % 7) (SW o (FWk 7 (wM2 S (S 233 85)) o)) (FWk 7 (wM2 S (S 233 85)) o))) 235 (((y / 7) * 7) + o)) + ((mtM (bg0 S) (pr 7 (y / 7) (y % 7) (SW o (FWk 7 (wM2 S (S 233 85)) o)) (FWk 7 (wM2 S (S 233 85)) o))) 235 ((7 * o) + (y % 7)))) ((mtM (bg0 S) (pr 7 (y / 7) (y % 7) (SW o (FWk 7 (wM2 S (S 233 85)) o)) (FWk 7 (wM2 S (S 233 85)) o))) 235 y)) = ((mtM (bg0 S) (pr 7 (y / 7) (y % 7) (SW o (FWk 7 (wM2 S (S 233 85)) o)) (FWk 7 (wM2 S (S 233 85)) o))) 235 y)) ∧ (mx_min (((mtM (bg0 S) (pr 7 (y / 7) (y % 7) (SW o (FWk 7 (wM2 S (S 233 85)) o)) (FWk 7 (wM2 S (S 233 85)) o))) 235 (((y / 7) * 7) + o)) + ((mtM (bg0 S) (pr 7 (y / 7) (y % 7) (SW o (FWk 7 (wM2 S (S 233 85)) o)) (FWk 7 (wM2 S (S 233 85)) o))) 235 ((7 * o) + (y % 7)))) ((mtM (bg0 S) (pr 7 (y / 7) (y % 7) (SW o (FWk 7 (wM2 S (S 233 85)) o)) (FWk 7 (wM2 S (S 233 85)) o))) 235 y)) ≤ (((mtM (bg0 S) (pr 7 (y / 7) (y % 7) (SW o (FWk 7 (wM2 S (S 233 85)) o)) (FWk 7 (wM2 S (S 233 85)) o))) 235 (((y / 7) * 7) + o)) + ((mtM (bg0 S) (pr 7 (y / 7) (y % 7) (SW o (FWk 7 (wM2 S (S 233 85)) o)) (FWk 7 (wM2 S (S 233 85)) o))) 235 ((7 * o) + (y % 7)))) ∧ (mx_min (((mtM (bg0 S) (pr 7 (y / 7) (y % 7) (SW o (FWk 7 (wM2 S (S 233 85)) o)) (FWk 7 (wM2 S (S 233 85)) o))) 235 (((y / 7) * 7) + o)) + ((mtM (bg0 S) (pr 7 (y / 7) (y % 7) (SW o (FWk 7 (wM2 S (S 233 85)) o)) (FWk 7 (wM2 S (S 233 85)) o))) 235 ((7 * o) + (y % 7)))) ((mtM (bg0 S) (pr 7 (y / 7) (y % 7) (SW o (FWk 7 (wM2 S (S 233 85)) o)) (FWk 7 (wM2 S (S 233 85)) o))) 235 y)) ≤ ((mtM (bg0 S) (pr 7 (y / 7) (y % 7) (SW o (FWk 7 (wM2 S (S 233 85)) o)) (FWk 7 (wM2 S (S 233 85)) o))) 235 y) := mx_min_b _ _
            refine r_ast (pc' := 226) 49 rfl rfl rfl (by omega) ?_
            refine r_iinc (pc' := 229) (ls' := [some (.inr (.inr 232)), some (.inl o), some (.inl (y + 1)), none, none]) rfl rfl rfl rfl rfl ?_
            refine r_goto (pc' := 176) rfl rfl ?_
            refine r_mem (show mx_up (mtM (bg0 S) (pr 7 (y / 7) (y % 7) (SW o (FWk 7 (wM2 S (S 233 85)) o)) (FWk 7 (wM2 S (S 233 85)) o))) 235 y (mx_min (((mtM (bg0 S) (pr 7 (y / 7) (y % 7) (SW o (FWk 7 (wM2 S (S 233 85)) o)) (FWk 7 (wM2 S (S 233 85)) o))) 235 (((y / 7) * 7) + o)) + ((mtM (bg0 S) (pr 7 (y / 7) (y % 7) (SW o (FWk 7 (wM2 S (S 233 85)) o)) (FWk 7 (wM2 S (S 233 85)) o))) 235 ((7 * o) + (y % 7)))) ((mtM (bg0 S) (pr 7 (y / 7) (y % 7) (SW o (FWk 7 (wM2 S (S 233 85)) o)) (FWk 7 (wM2 S (S 233 85)) o))) 235 y)) = mtM (bg0 S) (pr 7 ((y + 1) / 7) ((y + 1) % 7) (SW o (FWk 7 (wM2 S (S 233 85)) o)) (FWk 7 (wM2 S (S 233 85)) o)) from by exact fl_M (wok_M3 hB (by omega)) (by omega) (by omega)) ?_
            exact ih176 (y + 1) (show (0 ≤ (y + 1) ∧ (y + 1) ≤ 49) from by omega) (show (49 - (y + 1)).toNat < (49 - y).toNat from by omega)
          · refine r_icmp_ge1 (pc' := 232) rfl rfl (by omega) (by omega) ?_
            refine r_iinc (pc' := 235) (ls' := [some (.inr (.inr 232)), some (.inl (o + 1)), some (.inl y), none, none]) rfl rfl rfl rfl rfl ?_
            refine r_goto (pc' := 168) rfl rfl ?_
            refine r_forget [true, true, false, true, true] rfl ?_
            refine r_mem (show (mtM (bg0 S) (pr 7 (y / 7) (y % 7) (SW o (FWk 7 (wM2 S (S 233 85)) o)) (FWk 7 (wM2 S (S 233 85)) o))) = mtM (bg0 S) (FWk 7 (wM2 S (S 233 85)) (o + 1)) from by rw [FWk_s (by omega), show y = 49 by omega]; rfl) ?_
            exact ih168 (o + 1) (show (0 ≤ (o + 1) ∧ (o + 1) ≤ 7) from by omega) (show (7 - (o + 1)).toNat < (7 - o).toNat from by omega)
        · refine r_icmp_ge1 (pc' := 238) rfl rfl (by omega) (by omega) ?_
          refine r_aload (pc' := 239) rfl rfl rfl ?_
          refine r_const (pc' := 240) rfl rfl ?_
          refine r_put (pc' := 243) rfl rfl rfl rfl ?_
          refine r_aload (pc' := 244) rfl rfl rfl ?_
          refine r_getr (pc' := 247) (v := 239) rfl rfl rfl rfl rfl ?_
          refine r_const (pc' := 248) rfl rfl ?_
          refine r_const (pc' := 249) rfl rfl ?_
          refine r_bast (pc' := 250) 2 rfl rfl rfl (by omega) (by omega) ?_
          refine r_aload (pc' := 251) rfl rfl rfl ?_
          refine r_getr (pc' := 254) (v := 239) rfl rfl rfl rfl rfl ?_
          refine r_const (pc' := 255) rfl rfl ?_
          refine r_const (pc' := 256) rfl rfl ?_
          refine r_bast (pc' := 257) 2 rfl rfl rfl (by omega) (by omega) ?_
          refine r_aload (pc' := 258) rfl rfl rfl ?_
          refine r_const (pc' := 259) rfl rfl ?_
          refine r_put (pc' := 262) rfl rfl rfl rfl ?_
          refine q_vret rfl rfl rfl ?_
          obtain rfl : o = 7 := by omega
          exact ⟨rfl, rfl⟩
/-- letters of a clause's line -/
def spl (S : rS) (A R : Int) : rS := fl S A (fun p => S 2 (S R 4 + p) - 97) (S R 5)
