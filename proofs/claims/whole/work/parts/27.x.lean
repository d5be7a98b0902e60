theorem bdi_233_1 {x : Int} (h : 0 ≤ x ∧ x < 7) : bd_lo 233 (1 + x) = 0 ∧ bd_hi 233 (1 + x) = 3 := by
  constructor
  · show ite _ _ _ = _; rw [if_neg (by omega), if_pos (by omega)]
  · show ite _ _ _ = _; rw [if_neg (by omega), if_pos (by omega)]
theorem bdi_233_8 {x : Int} (h : 0 ≤ x ∧ x < 7) : bd_lo 233 (8 + x) = 0 ∧ bd_hi 233 (8 + x) = 3 := by
  constructor
  · show ite _ _ _ = _; rw [if_neg (by omega), if_neg (by omega), if_pos (by omega)]
  · show ite _ _ _ = _; rw [if_neg (by omega), if_neg (by omega), if_pos (by omega)]
theorem bdi_233_15 {x : Int} (h : 0 ≤ x ∧ x < 7) : bd_lo 233 (15 + x) = 0 ∧ bd_hi 233 (15 + x) = 9 := by
  constructor
  · show ite _ _ _ = _; rw [if_neg (by omega), if_neg (by omega), if_neg (by omega), if_pos (by omega)]
  · show ite _ _ _ = _; rw [if_neg (by omega), if_neg (by omega), if_neg (by omega), if_pos (by omega)]
theorem bdi_233_22 {x : Int} (h : 0 ≤ x ∧ x < 7) : bd_lo 233 (22 + x) = 0 ∧ bd_hi 233 (22 + x) = 8 := by
  constructor
  · show ite _ _ _ = _; rw [if_neg (by omega), if_neg (by omega), if_neg (by omega), if_neg (by omega), if_pos (by omega)]
  · show ite _ _ _ = _; rw [if_neg (by omega), if_neg (by omega), if_neg (by omega), if_neg (by omega), if_pos (by omega)]
theorem bdi_233_29 {x : Int} (h : 0 ≤ x ∧ x < 56) : bd_lo 233 (29 + x) = 0 ∧ bd_hi 233 (29 + x) = 25 := by
  constructor
  · show ite _ _ _ = _; rw [if_neg (by omega), if_neg (by omega), if_neg (by omega), if_neg (by omega), if_neg (by omega), if_pos (by omega)]
  · show ite _ _ _ = _; rw [if_neg (by omega), if_neg (by omega), if_neg (by omega), if_neg (by omega), if_neg (by omega), if_pos (by omega)]
theorem bdi_233_86 {x : Int} (h : 0 ≤ x ∧ x < 9) : bd_lo 233 (86 + x) = 0 ∧ bd_hi 233 (86 + x) = 6 := by
  constructor
  · show ite _ _ _ = _; rw [if_neg (by omega), if_neg (by omega), if_neg (by omega), if_neg (by omega), if_neg (by omega), if_neg (by omega), if_neg (by omega), if_pos (by omega)]
  · show ite _ _ _ = _; rw [if_neg (by omega), if_neg (by omega), if_neg (by omega), if_neg (by omega), if_neg (by omega), if_neg (by omega), if_neg (by omega), if_pos (by omega)]
theorem bdi_233_95 {x : Int} (h : 0 ≤ x ∧ x < 9) : bd_lo 233 (95 + x) = 0 ∧ bd_hi 233 (95 + x) = 6 := by
  constructor
  · show ite _ _ _ = _; rw [if_neg (by omega), if_neg (by omega), if_neg (by omega), if_neg (by omega), if_neg (by omega), if_neg (by omega), if_neg (by omega), if_neg (by omega), if_pos (by omega)]
  · show ite _ _ _ = _; rw [if_neg (by omega), if_neg (by omega), if_neg (by omega), if_neg (by omega), if_neg (by omega), if_neg (by omega), if_neg (by omega), if_neg (by omega), if_pos (by omega)]
theorem bdi_233_104 {x : Int} (h : 0 ≤ x ∧ x < 9) : bd_lo 233 (104 + x) = 0 ∧ bd_hi 233 (104 + x) = 30 := by
  constructor
  · show ite _ _ _ = _; rw [if_neg (by omega), if_neg (by omega), if_neg (by omega), if_neg (by omega), if_neg (by omega), if_neg (by omega), if_neg (by omega), if_neg (by omega), if_neg (by omega), if_pos (by omega)]
  · show ite _ _ _ = _; rw [if_neg (by omega), if_neg (by omega), if_neg (by omega), if_neg (by omega), if_neg (by omega), if_neg (by omega), if_neg (by omega), if_neg (by omega), if_neg (by omega), if_pos (by omega)]
theorem bdi_233_114 {x : Int} (h : 0 ≤ x ∧ x < 8) : bd_lo 233 (114 + x) = 0 ∧ bd_hi 233 (114 + x) = 8 := by
  constructor
  · show ite _ _ _ = _; rw [if_neg (by omega), if_neg (by omega), if_neg (by omega), if_neg (by omega), if_neg (by omega), if_neg (by omega), if_neg (by omega), if_neg (by omega), if_neg (by omega), if_neg (by omega), if_neg (by omega), if_pos (by omega)]
  · show ite _ _ _ = _; rw [if_neg (by omega), if_neg (by omega), if_neg (by omega), if_neg (by omega), if_neg (by omega), if_neg (by omega), if_neg (by omega), if_neg (by omega), if_neg (by omega), if_neg (by omega), if_neg (by omega), if_pos (by omega)]
theorem bdi_233_122 {x : Int} (h : 0 ≤ x ∧ x < 64) : bd_lo 233 (122 + x) = 0 ∧ bd_hi 233 (122 + x) = 25 := by
  constructor
  · show ite _ _ _ = _; rw [if_neg (by omega), if_neg (by omega), if_neg (by omega), if_neg (by omega), if_neg (by omega), if_neg (by omega), if_neg (by omega), if_neg (by omega), if_neg (by omega), if_neg (by omega), if_neg (by omega), if_neg (by omega), if_pos (by omega)]
  · show ite _ _ _ = _; rw [if_neg (by omega), if_neg (by omega), if_neg (by omega), if_neg (by omega), if_neg (by omega), if_neg (by omega), if_neg (by omega), if_neg (by omega), if_neg (by omega), if_neg (by omega), if_neg (by omega), if_neg (by omega), if_pos (by omega)]
theorem bdi_234_1 {x : Int} (h : 0 ≤ x ∧ x < 7) : bd_lo 234 (1 + x) = 0 ∧ bd_hi 234 (1 + x) = 3 := by
  constructor
  · show ite _ _ _ = _; rw [if_neg (by omega), if_pos (by omega)]
  · show ite _ _ _ = _; rw [if_neg (by omega), if_pos (by omega)]
theorem bdi_234_8 {x : Int} (h : 0 ≤ x ∧ x < 7) : bd_lo 234 (8 + x) = 0 ∧ bd_hi 234 (8 + x) = 3 := by
  constructor
  · show ite _ _ _ = _; rw [if_neg (by omega), if_neg (by omega), if_pos (by omega)]
  · show ite _ _ _ = _; rw [if_neg (by omega), if_neg (by omega), if_pos (by omega)]
theorem bdi_234_15 {x : Int} (h : 0 ≤ x ∧ x < 7) : bd_lo 234 (15 + x) = 0 ∧ bd_hi 234 (15 + x) = 9 := by
  constructor
  · show ite _ _ _ = _; rw [if_neg (by omega), if_neg (by omega), if_neg (by omega), if_pos (by omega)]
  · show ite _ _ _ = _; rw [if_neg (by omega), if_neg (by omega), if_neg (by omega), if_pos (by omega)]
theorem bdi_234_22 {x : Int} (h : 0 ≤ x ∧ x < 7) : bd_lo 234 (22 + x) = 0 ∧ bd_hi 234 (22 + x) = 8 := by
  constructor
  · show ite _ _ _ = _; rw [if_neg (by omega), if_neg (by omega), if_neg (by omega), if_neg (by omega), if_pos (by omega)]
  · show ite _ _ _ = _; rw [if_neg (by omega), if_neg (by omega), if_neg (by omega), if_neg (by omega), if_pos (by omega)]
theorem bdi_234_29 {x : Int} (h : 0 ≤ x ∧ x < 56) : bd_lo 234 (29 + x) = 0 ∧ bd_hi 234 (29 + x) = 25 := by
  constructor
  · show ite _ _ _ = _; rw [if_neg (by omega), if_neg (by omega), if_neg (by omega), if_neg (by omega), if_neg (by omega), if_pos (by omega)]
  · show ite _ _ _ = _; rw [if_neg (by omega), if_neg (by omega), if_neg (by omega), if_neg (by omega), if_neg (by omega), if_pos (by omega)]
theorem bdi_234_86 {x : Int} (h : 0 ≤ x ∧ x < 9) : bd_lo 234 (86 + x) = 0 ∧ bd_hi 234 (86 + x) = 6 := by
  constructor
  · show ite _ _ _ = _; rw [if_neg (by omega), if_neg (by omega), if_neg (by omega), if_neg (by omega), if_neg (by omega), if_neg (by omega), if_neg (by omega), if_pos (by omega)]
  · show ite _ _ _ = _; rw [if_neg (by omega), if_neg (by omega), if_neg (by omega), if_neg (by omega), if_neg (by omega), if_neg (by omega), if_neg (by omega), if_pos (by omega)]
theorem bdi_234_95 {x : Int} (h : 0 ≤ x ∧ x < 9) : bd_lo 234 (95 + x) = 0 ∧ bd_hi 234 (95 + x) = 6 := by
  constructor
  · show ite _ _ _ = _; rw [if_neg (by omega), if_neg (by omega), if_neg (by omega), if_neg (by omega), if_neg (by omega), if_neg (by omega), if_neg (by omega), if_neg (by omega), if_pos (by omega)]
  · show ite _ _ _ = _; rw [if_neg (by omega), if_neg (by omega), if_neg (by omega), if_neg (by omega), if_neg (by omega), if_neg (by omega), if_neg (by omega), if_neg (by omega), if_pos (by omega)]
theorem bdi_234_104 {x : Int} (h : 0 ≤ x ∧ x < 9) : bd_lo 234 (104 + x) = 0 ∧ bd_hi 234 (104 + x) = 30 := by
  constructor
  · show ite _ _ _ = _; rw [if_neg (by omega), if_neg (by omega), if_neg (by omega), if_neg (by omega), if_neg (by omega), if_neg (by omega), if_neg (by omega), if_neg (by omega), if_neg (by omega), if_pos (by omega)]
  · show ite _ _ _ = _; rw [if_neg (by omega), if_neg (by omega), if_neg (by omega), if_neg (by omega), if_neg (by omega), if_neg (by omega), if_neg (by omega), if_neg (by omega), if_neg (by omega), if_pos (by omega)]
theorem bdi_234_114 {x : Int} (h : 0 ≤ x ∧ x < 8) : bd_lo 234 (114 + x) = 0 ∧ bd_hi 234 (114 + x) = 8 := by
  constructor
  · show ite _ _ _ = _; rw [if_neg (by omega), if_neg (by omega), if_neg (by omega), if_neg (by omega), if_neg (by omega), if_neg (by omega), if_neg (by omega), if_neg (by omega), if_neg (by omega), if_neg (by omega), if_neg (by omega), if_pos (by omega)]
  · show ite _ _ _ = _; rw [if_neg (by omega), if_neg (by omega), if_neg (by omega), if_neg (by omega), if_neg (by omega), if_neg (by omega), if_neg (by omega), if_neg (by omega), if_neg (by omega), if_neg (by omega), if_neg (by omega), if_pos (by omega)]
theorem bdi_234_122 {x : Int} (h : 0 ≤ x ∧ x < 64) : bd_lo 234 (122 + x) = 0 ∧ bd_hi 234 (122 + x) = 25 := by
  constructor
  · show ite _ _ _ = _; rw [if_neg (by omega), if_neg (by omega), if_neg (by omega), if_neg (by omega), if_neg (by omega), if_neg (by omega), if_neg (by omega), if_neg (by omega), if_neg (by omega), if_neg (by omega), if_neg (by omega), if_neg (by omega), if_pos (by omega)]
  · show ite _ _ _ = _; rw [if_neg (by omega), if_neg (by omega), if_neg (by omega), if_neg (by omega), if_neg (by omega), if_neg (by omega), if_neg (by omega), if_neg (by omega), if_neg (by omega), if_neg (by omega), if_neg (by omega), if_neg (by omega), if_pos (by omega)]
theorem bdi_236_0 {x : Int} (h : 0 ≤ x ∧ x < 7) : bd_lo 236 (0 + x) = 0 ∧ bd_hi 236 (0 + x) = 255 := by
  constructor
  · show ite _ _ _ = _; rw [if_pos (by omega)]
  · show ite _ _ _ = _; rw [if_pos (by omega)]
/-- the reference's state more to be undone -/
def rmM (S : rS) : rS := if S 232 5 = 8 then mx_up (mx_cp (mx_up (mx_cp S 237 12 237 0 84) 232 5 (S 232 5 - 1)) 236 0 237 (12 * (S 232 5 - 1)) 12) 232 5 (S 232 5 - 1 + 1) else mx_up (mx_cp S 236 0 237 (12 * S 232 5) 12) 232 5 (S 232 5 + 1)
theorem rmM_o {S : rS} {a j : Int} (h : ¬ (a = 237 ∨ a = 232 ∧ j = 5)) : rmM S a j = S a j := by
  unfold rmM
  split
  · rw [up_ne (by omega), cp_o (by omega), up_ne (by omega), cp_o (by omega)]
  · rw [up_ne (by omega), cp_o (by omega)]
theorem bd237 {k : Int} : bd_lo 237 (0 + k) ≤ bd_lo 237 (12 + k) ∧ bd_hi 237 (12 + k) ≤ bd_hi 237 (0 + k) := by
  have e : (12 + k) % 12 = (0 + k) % 12 := by omega
  constructor
  · show (if 0 ≤ (0 + k) % 12 ∧ (0 + k) % 12 ≤ 6 then (0 : Int) else _) ≤ (if 0 ≤ (12 + k) % 12 ∧ (12 + k) % 12 ≤ 6 then (0 : Int) else _); rw [e]; exact Int.le_refl _
  · show (if 0 ≤ (12 + k) % 12 ∧ (12 + k) % 12 ≤ 6 then (255 : Int) else _) ≤ (if 0 ≤ (0 + k) % 12 ∧ (0 + k) % 12 ≤ 6 then (255 : Int) else _); rw [e]; exact Int.le_refl _
theorem Bd_shf {S : rS} (hB : Bd S) (n : Int) : Bd (mx_cp S 237 12 237 0 n) := Bd_cp hB (fun _ _ _ => bd237)
theorem Bd_put {S : rS} (hB : Bd S) {u : Int} : Bd (mx_cp S 236 0 237 (12 * u) 12) := Bd_cp hB (fun k _ _ => by have q := bdst_e (A := 237) (by omega) (u := u) (k := k) (by omega); rw [Int.zero_add]; omega)
theorem Bd_pn {S : rS} (hB : Bd S) {u : Int} : Bd (mx_cp S 237 (12 * u) 236 0 12) := Bd_cp hB (fun k _ _ => by have q := bdst_e (A := 237) (by omega) (u := u) (k := k) (by omega); rw [Int.zero_add]; omega)
theorem Bd_nk {S : rS} (hB : Bd S) {u : Int} : Bd (mx_cp S 236 0 238 (12 * u) 12) := Bd_cp hB (fun k _ _ => by have q := bdst_e (A := 238) (by omega) (u := u) (k := k) (by omega); rw [Int.zero_add]; omega)
theorem Bd_kn {S : rS} (hB : Bd S) {u : Int} : Bd (mx_cp S 238 (12 * u) 236 0 12) := Bd_cp hB (fun k _ _ => by have q := bdst_e (A := 238) (by omega) (u := u) (k := k) (by omega); rw [Int.zero_add]; omega)
theorem Bd_rmM {S : rS} (hB : Bd S) : Bd (rmM S) := by
  have u5 : 0 ≤ S 232 5 ∧ S 232 5 ≤ 8 := hB 232 5
  unfold rmM
  split
  · exact Bd_up (Bd_put (Bd_up (Bd_shf hB _) (show (0 : Int) ≤ _ by omega) (show _ ≤ (8 : Int) by omega))) (show (0 : Int) ≤ _ by omega) (show _ ≤ (8 : Int) by omega)
  · exact Bd_up (Bd_put hB) (show (0 : Int) ≤ _ by omega) (show _ ≤ (8 : Int) by omega)
theorem fl_s2 {S : rS} {A : Int} {g : Int → Int} {k i v : Int} (h : 0 ≤ k) (hi : i = k) (hv : v = g k) : mx_up (fl S A g k) A i v = fl S A g (k + 1) := by
  subst hi; exact fl_s h hv
noncomputable def bpM (S : rS) (f : Int) : Int := bs (fun kk => tb (S 236 (0 + f)) kk ∧ btake (S 233 (1 + f)) (S 233 (29 + 8 * f + kk))) (S 233 (22 + f))
theorem bpM_cg {S S' : rS} {f : Int} (h : ∀ j, S' 233 j = S 233 j) (h2 : S' 236 (0 + f) = S 236 (0 + f)) : bpM S' f = bpM S f := by
  unfold bpM
  rw [h2, show S' 233 = S 233 from funext h]
/-- a piece of a row is 0 -/
def fz (S : rS) (A b n : Int) : rS := fun a j => if a = A ∧ b ≤ j ∧ j < b + n then 0 else S a j
theorem fz_0 (S : rS) (A b : Int) : S = fz S A b 0 := by
  funext a j; unfold fz; rw [if_neg (by omega)]
theorem fz_s {S : rS} {A b k i : Int} (h : 0 ≤ k) (hi : i = b + k) : mx_up (fz S A b k) A i 0 = fz S A b (k + 1) := by
  subst hi
  funext a j; unfold mx_up fz
  by_cases h1 : a = A ∧ j = b + k
  · rw [if_pos h1, if_pos (by omega)]
  · rw [if_neg h1]
    by_cases h2 : a = A ∧ b ≤ j ∧ j < b + k
    · rw [if_pos h2, if_pos (by omega)]
    · rw [if_neg h2, if_neg (by omega)]
theorem fz_o {S : rS} {A b n a j : Int} (h : ¬ a = A) : fz S A b n a j = S a j := if_neg (fun q => h q.1)
theorem fz_ox {S : rS} {A b n a j : Int} (h : j < b ∨ b + n ≤ j) : fz S A b n a j = S a j := if_neg (by omega)
theorem fz_i {S : rS} {A b n j : Int} (h : b ≤ j ∧ j < b + n) : fz S A b n A j = 0 := if_pos ⟨rfl, h⟩
theorem Bd_fz {S : rS} {b n : Int} (h : Bd S) : Bd (fz S 244 b n) := by
  intro a j; unfold fz
  by_cases h1 : a = 244 ∧ b ≤ j ∧ j < b + n
  · rw [if_pos h1, h1.1]; exact ⟨show (-2147483648 : Int) ≤ 0 by omega, show (0 : Int) ≤ 2147483647 by omega⟩
  · rw [if_neg h1]; exact h a j
theorem cp_d {S : rS} {a i b j k i' j' n v : Int} (hk : 0 ≤ k ∧ k < n) (hj : j' = j + (n - 1 - k)) (hi : i' = i + (n - 1 - k)) (hv : v = S a i') : mx_up (mx_cp S a (i + (n - k)) b (j + (n - k)) k) b j' v = mx_cp S a (i + (n - (k + 1))) b (j + (n - (k + 1))) (k + 1) := by
  subst hv; subst hi; subst hj
  funext x y; unfold mx_up mx_cp
  by_cases h1 : x = b ∧ y = j + (n - 1 - k)
  · rw [if_pos h1, if_pos (by omega), show i + (n - (k + 1)) + (y - (j + (n - (k + 1)))) = i + (n - 1 - k) by omega]
  · rw [if_neg h1]
    by_cases h2 : x = b ∧ j + (n - k) ≤ y ∧ y < j + (n - k) + k
    · rw [if_pos h2, if_pos (by omega), show i + (n - (k + 1)) + (y - (j + (n - (k + 1)))) = i + (n - k) + (y - (j + (n - k))) by omega]
    · rw [if_neg h2, if_neg (by omega)]
theorem c_X11_remember {S : rS} (hB : Bd S) : CS 2 121 [.inr (.inr 232)] S (fun r' S' => r' = none ∧ S' = rmM S) := by
  refine RS.beg (ls := [some (.inr (.inr 232)), none]) rfl rfl rfl rfl rfl ?_
  have u5 : 0 ≤ S 232 5 ∧ S 232 5 ≤ 8 := hB 232 5
  refine r_aload (pc' := 1) rfl rfl rfl ?_
  refine r_getv (pc' := 4) (v := (S 232 5)) rfl rfl (Or.inl rfl) rfl rfl ?_
  have b1 : 0 ≤ S 232 5 ∧ S 232 5 ≤ 8 := hB 232 5
  refine r_const (pc' := 6) rfl rfl ?_
  by_cases h2 : (S 232 5) = 8
  · refine r_icmp_ne0 (pc' := 9) rfl rfl (by omega) (by omega) ?_
    refine r_const (pc' := 10) rfl rfl ?_
    refine r_istore (pc' := 11) (ls' := [some (.inr (.inr 232)), some (.inl 0)]) rfl rfl rfl rfl ?_
    refine r_mem (show S = mx_cp S 237 12 237 0 (0 : Int) from by exact cp_0 _ _ _ _ _) ?_
    refine r_while (α := Int) (fun z' => [some (.inr (.inr 232)), some (.inl z')]) (fun z' => mx_cp S 237 12 237 0 z') (fun z' => (0 ≤ z' ∧ z' ≤ 84)) (fun z' => (84 - z').toNat) ?_ 0 (show (0 ≤ (0 : Int) ∧ (0 : Int) ≤ 84) from by omega)
    rintro k hI' ih11
    have hI' : (0 ≤ k ∧ k ≤ 84) := hI'
    have i1 := hI'
    show RS _ _ _ _ [some (.inr (.inr 232)), some (.inl k)] [] (mx_cp S 237 12 237 0 k)
    have hB3 : Bd (mx_cp S 237 12 237 0 k) := by exact Bd_shf hB _
    refine r_iload (pc' := 12) rfl rfl rfl ?_
    refine r_const (pc' := 14) rfl rfl ?_
    by_cases h4 : k < 84
    · refine r_icmp_ge0 (pc' := 17) rfl rfl (by omega) (by omega) ?_
      refine r_aload (pc' := 18) rfl rfl rfl ?_
      refine r_getr (pc' := 21) (v := 237) rfl rfl rfl rfl rfl ?_
      refine r_iload (pc' := 22) rfl rfl rfl ?_
      refine r_aload (pc' := 23) rfl rfl rfl ?_
      refine r_getr (pc' := 26) (v := 237) rfl rfl rfl rfl rfl ?_
      refine r_iload (pc' := 27) rfl rfl rfl ?_
      refine r_const (pc' := 29) rfl rfl ?_
      refine r_iadd (pc' := 30) rfl rfl ?_
      refine r_aldv (pc' := 31) (v := (S 237 (k + 12))) 96 rfl rfl rfl (by omega) (cp_ox (by omega)) ?_
      refine r_ast (pc' := 32) 96 rfl rfl rfl (by omega) ?_
      refine r_iinc (pc' := 35) (ls' := [some (.inr (.inr 232)), some (.inl (k + 1))]) rfl rfl rfl rfl rfl ?_
      refine r_goto (pc' := 11) rfl rfl ?_
      refine r_mem (show mx_up (mx_cp S 237 12 237 0 k) 237 k (S 237 (k + 12)) = mx_cp S 237 12 237 0 (k + 1) from by exact cp_s (by omega) rfl (by omega) (by rw [Int.add_comm])) ?_
      exact ih11 (k + 1) (show (0 ≤ (k + 1) ∧ (k + 1) ≤ 84) from by omega) (show (84 - (k + 1)).toNat < (84 - k).toNat from by omega)
    · refine r_icmp_ge1 (pc' := 38) rfl rfl (by omega) (by omega) ?_
      refine r_aload (pc' := 39) rfl rfl rfl ?_
      refine r_dupr (pc' := 40) rfl rfl ?_
      refine r_getv (pc' := 43) (v := (S 232 5)) rfl rfl (Or.inl rfl) rfl (cp_o (by omega)) ?_
      refine r_const (pc' := 44) rfl rfl ?_
      refine r_isub (pc' := 45) rfl rfl ?_
      refine r_put (pc' := 48) rfl rfl rfl rfl ?_
      refine r_aload (pc' := 49) rfl rfl rfl ?_
      refine r_getr (pc' := 52) (v := 236) rfl rfl rfl rfl rfl ?_
      refine r_const (pc' := 53) rfl rfl ?_
      refine r_aload (pc' := 54) rfl rfl rfl ?_
      refine r_getr (pc' := 57) (v := 237) rfl rfl rfl rfl rfl ?_
      refine r_const (pc' := 59) rfl rfl ?_
      refine r_aload (pc' := 60) rfl rfl rfl ?_
      refine r_getv (pc' := 63) (v := ((S 232 5) - 1)) rfl rfl (Or.inl rfl) rfl rfl ?_
      refine r_imul (pc' := 64) rfl rfl ?_
      refine r_const (pc' := 66) rfl rfl ?_
      refine q_callE (pc' := 69) (w := none) (S2 := mx_cp (mx_up (mx_cp S 237 12 237 0 k) 232 5 ((S 232 5) - 1)) 236 0 237 (12 * ((S 232 5) - 1)) 12) (st' := []) rfl rfl rfl (c_X11_copies_np (u := ((S 232 5) - 1)) (S := mx_up (mx_cp S 237 12 237 0 k) 232 5 ((S 232 5) - 1)) (Bd_up hB3 (show (0 : Int) ≤ ((S 232 5) - 1) from by omega) (show ((S 232 5) - 1) ≤ (8 : Int) from by omega)) (show 0 ≤ ((S 232 5) - 1) ∧ ((S 232 5) - 1) < 8 from by omega)) (by decide) rfl rfl (Nat.le_of_ble_eq_true rfl) (fun q => absurd rfl q) rfl rfl ?_
      have hB5 : Bd (mx_cp (mx_up (mx_cp S 237 12 237 0 k) 232 5 ((S 232 5) - 1)) 236 0 237 (12 * ((S 232 5) - 1)) 12) := Bd_put (Bd_up hB3 (show (0 : Int) ≤ ((S 232 5) - 1) from by omega) (show ((S 232 5) - 1) ≤ (8 : Int) from by omega))
      refine r_aload (pc' := 70) rfl rfl rfl ?_
      refine r_dupr (pc' := 71) rfl rfl ?_
      refine r_getv (pc' := 74) (v := ((S 232 5) - 1)) rfl rfl (Or.inl rfl) rfl (cp_o (by omega)) ?_
      refine r_const (pc' := 75) rfl rfl ?_
      refine r_iadd (pc' := 76) rfl rfl ?_
      refine r_put (pc' := 79) rfl rfl rfl rfl ?_
      refine q_vret rfl rfl rfl ?_
      obtain rfl : k = 84 := by omega
      exact ⟨rfl, by unfold rmM; rw [if_pos h2]⟩
  · refine r_icmp_ne1 (pc' := 48) rfl rfl (by omega) (by omega) ?_
    refine r_aload (pc' := 49) rfl rfl rfl ?_
    refine r_getr (pc' := 52) (v := 236) rfl rfl rfl rfl rfl ?_
    refine r_const (pc' := 53) rfl rfl ?_
    refine r_aload (pc' := 54) rfl rfl rfl ?_
    refine r_getr (pc' := 57) (v := 237) rfl rfl rfl rfl rfl ?_
    refine r_const (pc' := 59) rfl rfl ?_
    refine r_aload (pc' := 60) rfl rfl rfl ?_
    refine r_getv (pc' := 63) (v := (S 232 5)) rfl rfl (Or.inl rfl) rfl rfl ?_
    refine r_imul (pc' := 64) rfl rfl ?_
    refine r_const (pc' := 66) rfl rfl ?_
    refine q_callE (pc' := 69) (w := none) (S2 := mx_cp S 236 0 237 (12 * (S 232 5)) 12) (st' := []) rfl rfl rfl (c_X11_copies_np (u := (S 232 5)) (S := S) hB (show 0 ≤ (S 232 5) ∧ (S 232 5) < 8 from by omega)) (by decide) rfl rfl (Nat.le_of_ble_eq_true rfl) (fun q => absurd rfl q) rfl rfl ?_
    have hB6 : Bd (mx_cp S 236 0 237 (12 * (S 232 5)) 12) := Bd_put hB
    refine r_aload (pc' := 70) rfl rfl rfl ?_
    refine r_dupr (pc' := 71) rfl rfl ?_
    refine r_getv (pc' := 74) (v := (S 232 5)) rfl rfl (Or.inl rfl) rfl (cp_o (by omega)) ?_
    refine r_const (pc' := 75) rfl rfl ?_
    refine r_iadd (pc' := 76) rfl rfl ?_
    refine r_put (pc' := 79) rfl rfl rfl rfl ?_
    refine q_vret rfl rfl rfl ?_
    exact ⟨rfl, by unfold rmM; rw [if_neg h2]⟩
noncomputable def w_X11_write (S : rS) (c : Int) : Int × rS := if (0 : Int) ≤ c ∧ c ≤ (255 : Int) then if (S 232 9) = 200 then ((-5), S) else (((S 232 9) + 1), mx_up (mx_up S 240 (S 232 9) c) 232 9 ((S 232 9) + 1)) else ((-3), S)
theorem c_X11_write {c : Int} {S : rS} (hB : Bd S) (h_c : -2147483648 ≤ c ∧ c < 2147483648) : CS 2 132 [.inr (.inr 232), .inl c] S (fun r' S' => r' = some (.inl ((w_X11_write S c).1)) ∧ S' = (w_X11_write S c).2 ∧ Bd S') := by
  refine RS.beg (ls := [some (.inr (.inr 232)), some (.inl c)]) rfl rfl rfl rfl rfl ?_
  have z9 : 0 ≤ S 232 9 ∧ S 232 9 ≤ 200 := hB 232 9
  refine r_iload (pc' := 1) rfl rfl rfl ?_
  refine r_i2l (pc' := 2) rfl rfl (by omega) ?_
  refine r_lcon (pc' := 3) rfl rfl ?_
  refine r_lcon (pc' := 6) rfl rfl ?_
  by_cases h1 : (0 : Int) ≤ c ∧ c ≤ (255 : Int)
  · skip
    refine q_callE (pc' := 9) (w := some (.inl 1)) (S2 := S) (st' := [.inl 1]) rfl rfl rfl (bi_pos h1 (c_X11_in (a := c) (b := 0) (c := 255) (S := S)  (show -2147483648 ≤ c ∧ c < 2147483648 from by omega) (show -2147483648 ≤ (0 : Int) ∧ (0 : Int) < 2147483648 from by omega) (show -2147483648 ≤ (255 : Int) ∧ (255 : Int) < 2147483648 from by omega))) (by decide) rfl rfl (Nat.le_of_ble_eq_true rfl) (fun q => absurd rfl q) rfl rfl ?_
    refine r_if_ne1 (pc' := 15) rfl rfl (by decide) (by decide) ?_
    refine r_aload (pc' := 16) rfl rfl rfl ?_
    refine r_getv (pc' := 19) (v := (S 232 9)) rfl rfl (Or.inl rfl) rfl rfl ?_
    have b2 : 0 ≤ S 232 9 ∧ S 232 9 ≤ 200 := hB 232 9
    refine r_const (pc' := 22) rfl rfl ?_
    by_cases h3 : (S 232 9) = 200
    · refine r_icmp_ne0 (pc' := 25) rfl rfl (by omega) (by omega) ?_
      refine r_const (pc' := 27) rfl rfl ?_
      refine q_iret rfl rfl rfl ?_
      have ew : w_X11_write S c = ((-5), S) := by unfold w_X11_write; rw [if_pos h1, if_pos h3]
      exact ⟨by rw [ew], by rw [ew], hB⟩
    · refine r_icmp_ne1 (pc' := 28) rfl rfl (by omega) (by omega) ?_
      refine r_aload (pc' := 29) rfl rfl rfl ?_
      refine r_getr (pc' := 32) (v := 240) rfl rfl rfl rfl rfl ?_
      refine r_aload (pc' := 33) rfl rfl rfl ?_
      refine r_getv (pc' := 36) (v := (S 232 9)) rfl rfl (Or.inl rfl) rfl rfl ?_
      refine r_iload (pc' := 37) rfl rfl rfl ?_
      refine r_ast (pc' := 38) 200 rfl rfl rfl (by omega) ?_
      refine r_aload (pc' := 39) rfl rfl rfl ?_
      refine r_dupr (pc' := 40) rfl rfl ?_
      refine r_getv (pc' := 43) (v := (S 232 9)) rfl rfl (Or.inl rfl) rfl rfl ?_
      refine r_const (pc' := 44) rfl rfl ?_
      refine r_iadd (pc' := 45) rfl rfl ?_
      refine r_put (pc' := 48) rfl rfl rfl rfl ?_
      refine r_aload (pc' := 49) rfl rfl rfl ?_
      refine r_getv (pc' := 52) (v := ((S 232 9) + 1)) rfl rfl (Or.inl rfl) rfl rfl ?_
      refine q_iret rfl rfl rfl ?_
      have ew : w_X11_write S c = (((S 232 9) + 1), mx_up (mx_up S 240 (S 232 9) c) 232 9 ((S 232 9) + 1)) := by unfold w_X11_write; rw [if_pos h1, if_neg h3]
      exact ⟨by rw [ew], by rw [ew], (Bd_up (Bd_up hB (show (0 : Int) ≤ c from by omega) (show c ≤ (255 : Int) from by omega)) (show (0 : Int) ≤ ((S 232 9) + 1) from by omega) (show ((S 232 9) + 1) ≤ (200 : Int) from by omega))⟩
  · skip
    refine q_callE (pc' := 9) (w := some (.inl 0)) (S2 := S) (st' := [.inl 0]) rfl rfl rfl (bi_neg h1 (c_X11_in (a := c) (b := 0) (c := 255) (S := S)  (show -2147483648 ≤ c ∧ c < 2147483648 from by omega) (show -2147483648 ≤ (0 : Int) ∧ (0 : Int) < 2147483648 from by omega) (show -2147483648 ≤ (255 : Int) ∧ (255 : Int) < 2147483648 from by omega))) (by decide) rfl rfl (Nat.le_of_ble_eq_true rfl) (fun q => absurd rfl q) rfl rfl ?_
    refine r_if_ne0 (pc' := 12) rfl rfl (by decide) (by decide) ?_
    refine r_const (pc' := 14) rfl rfl ?_
    refine q_iret rfl rfl rfl ?_
    have ew : w_X11_write S c = ((-3), S) := by unfold w_X11_write; rw [if_neg h1]
    exact ⟨by rw [ew], by rw [ew], hB⟩
noncomputable def w_X11_erase (S : rS) : Int × rS := ((S 232 9), mx_up S 232 9 0)
theorem c_X11_erase {S : rS} (hB : Bd S) : CS 1 75 [.inr (.inr 232)] S (fun r' S' => r' = some (.inl ((w_X11_erase S).1)) ∧ S' = (w_X11_erase S).2 ∧ Bd S') := by
  refine RS.beg (ls := [some (.inr (.inr 232)), none]) rfl rfl rfl rfl rfl ?_
  refine r_aload (pc' := 1) rfl rfl rfl ?_
  refine r_getv (pc' := 4) (v := (S 232 9)) rfl rfl (Or.inl rfl) rfl rfl ?_
  have b1 : 0 ≤ S 232 9 ∧ S 232 9 ≤ 200 := hB 232 9
  refine r_istore (pc' := 5) (ls' := [some (.inr (.inr 232)), some (.inl (S 232 9))]) rfl rfl rfl rfl ?_
  refine r_aload (pc' := 6) rfl rfl rfl ?_
  refine r_const (pc' := 7) rfl rfl ?_
  refine r_put (pc' := 10) rfl rfl rfl rfl ?_
  refine r_iload (pc' := 11) rfl rfl rfl ?_
  refine q_iret rfl rfl rfl ?_
  have ew : w_X11_erase S = ((S 232 9), mx_up S 232 9 0) := by unfold w_X11_erase; rfl
  exact ⟨by rw [ew], by rw [ew], (Bd_up hB (show (0 : Int) ≤ 0 from by omega) (show 0 ≤ (200 : Int) from by omega))⟩
noncomputable def w_X11_through (S : rS) (g : Int) : Int × rS := if (0 : Int) ≤ g ∧ g ≤ ((S 233 85) - 1) then if (S 236 11) = (S 233 (86 + g)) then if (S 233 186) < ((S 236 7) + (S 233 (104 + g))) then ((-4), S) else ((S 233 (95 + g)), mx_up (mx_up (rmM S) 236 11 (S 233 (95 + g))) 236 7 ((S 236 7) + (S 233 (104 + g)))) else if (S 236 11) = (S 233 (95 + g)) then if (S 233 186) < ((S 236 7) + (S 233 (104 + g))) then ((-4), S) else ((S 233 (86 + g)), mx_up (mx_up (rmM S) 236 11 (S 233 (86 + g))) 236 7 ((S 236 7) + (S 233 (104 + g)))) else ((-4), S) else ((-2), S)
theorem c_X11_through {g : Int} {S : rS} (hB : Bd S) (h_g : -2147483648 ≤ g ∧ g < 2147483648) : CS 3 126 [.inr (.inr 232), .inl g] S (fun r' S' => r' = some (.inl ((w_X11_through S g).1)) ∧ S' = (w_X11_through S g).2 ∧ Bd S') := by
  refine RS.beg (ls := [some (.inr (.inr 232)), some (.inl g), none, none, none]) rfl rfl rfl rfl rfl ?_
  have n6 : 0 ≤ S 233 85 ∧ S 233 85 ≤ 9 := hB 233 85
  have s7 : 0 ≤ S 236 7 ∧ S 236 7 ≤ 99 := hB 236 7
  have s8 : 0 ≤ S 236 8 ∧ S 236 8 ≤ 999 := hB 236 8
  have s9 : 0 ≤ S 236 9 ∧ S 236 9 ≤ 127 := hB 236 9
  have s10 : 0 ≤ S 236 10 ∧ S 236 10 ≤ 9 := hB 236 10
  have s11 : 0 ≤ S 236 11 ∧ S 236 11 ≤ 6 := hB 236 11
  have dk : 0 ≤ S 233 186 ∧ S 233 186 ≤ 99 := hB 233 186
  refine r_iload (pc' := 1) rfl rfl rfl ?_
  refine r_i2l (pc' := 2) rfl rfl (by omega) ?_
  refine r_lcon (pc' := 3) rfl rfl ?_
  refine r_aload (pc' := 4) rfl rfl rfl ?_
  refine r_getr (pc' := 7) (v := 233) rfl rfl rfl rfl rfl ?_
  refine r_const (pc' := 9) rfl rfl ?_
  refine r_aldv (pc' := 10) (v := (S 233 85)) 187 rfl rfl rfl (by omega) rfl ?_
  have b1 : 0 ≤ S 233 85 ∧ S 233 85 ≤ 9 := hB 233 85
  refine r_const (pc' := 11) rfl rfl ?_
  refine r_isub (pc' := 12) rfl rfl ?_
  refine r_i2l (pc' := 13) rfl rfl (by omega) ?_
  by_cases h2 : (0 : Int) ≤ g ∧ g ≤ ((S 233 85) - 1)
  · skip
    refine q_callE (pc' := 16) (w := some (.inl 1)) (S2 := S) (st' := [.inl 1]) rfl rfl rfl (bi_pos h2 (c_X11_in (a := g) (b := 0) (c := ((S 233 85) - 1)) (S := S)  (show -2147483648 ≤ g ∧ g < 2147483648 from by omega) (show -2147483648 ≤ (0 : Int) ∧ (0 : Int) < 2147483648 from by omega) (show -2147483648 ≤ ((S 233 85) - 1) ∧ ((S 233 85) - 1) < 2147483648 from by omega))) (by decide) rfl rfl (Nat.le_of_ble_eq_true rfl) (fun q => absurd rfl q) rfl rfl ?_
    refine r_if_ne1 (pc' := 22) rfl rfl (by decide) (by decide) ?_
    refine r_aload (pc' := 23) rfl rfl rfl ?_
    refine r_getr (pc' := 26) (v := 233) rfl rfl rfl rfl rfl ?_
    refine r_const (pc' := 28) rfl rfl ?_
    refine r_iload (pc' := 29) rfl rfl rfl ?_
    refine r_iadd (pc' := 30) rfl rfl ?_
    refine r_aldv (pc' := 31) (v := (S 233 (86 + g))) 187 rfl rfl rfl (by omega) rfl ?_
    have b3 := bdc_233_86 hB g
    refine r_istore (pc' := 32) (ls' := [some (.inr (.inr 232)), some (.inl g), some (.inl (S 233 (86 + g))), none, none]) rfl rfl rfl rfl ?_
    refine r_aload (pc' := 33) rfl rfl rfl ?_
    refine r_getr (pc' := 36) (v := 233) rfl rfl rfl rfl rfl ?_
    refine r_const (pc' := 38) rfl rfl ?_
    refine r_iload (pc' := 39) rfl rfl rfl ?_
    refine r_iadd (pc' := 40) rfl rfl ?_
    refine r_aldv (pc' := 41) (v := (S 233 (95 + g))) 187 rfl rfl rfl (by omega) rfl ?_
    have b4 := bdc_233_95 hB g
    refine r_istore (pc' := 42) (ls' := [some (.inr (.inr 232)), some (.inl g), some (.inl (S 233 (86 + g))), some (.inl (S 233 (95 + g))), none]) rfl rfl rfl rfl ?_
    refine r_aload (pc' := 43) rfl rfl rfl ?_
    refine r_getr (pc' := 46) (v := 236) rfl rfl rfl rfl rfl ?_
    refine r_const (pc' := 48) rfl rfl ?_
    refine r_aldv (pc' := 49) (v := (S 236 11)) 12 rfl rfl rfl (by omega) rfl ?_
    have b5 : 0 ≤ S 236 11 ∧ S 236 11 ≤ 6 := hB 236 11
    refine r_iload (pc' := 50) rfl rfl rfl ?_
    by_cases h6 : (S 236 11) = (S 233 (86 + g))
    · refine r_icmp_eq1 (pc' := 64) rfl rfl (by omega) (by omega) ?_
      refine r_const (pc' := 65) rfl rfl ?_
      refine r_goto (pc' := 69) rfl rfl ?_
      refine r_istore (pc' := 71) (ls' := [some (.inr (.inr 232)), some (.inl g), some (.inl (S 233 (86 + g))), some (.inl (S 233 (95 + g))), some (.inl 1)]) rfl rfl rfl rfl ?_
      refine r_iload (pc' := 73) rfl rfl rfl ?_
      refine r_if_eq0 (pc' := 76) rfl rfl (by decide) (by decide) ?_
      refine r_aload (pc' := 77) rfl rfl rfl ?_
      refine r_getr (pc' := 80) (v := 236) rfl rfl rfl rfl rfl ?_
      refine r_const (pc' := 82) rfl rfl ?_
      refine r_aldv (pc' := 83) (v := (S 236 7)) 12 rfl rfl rfl (by omega) rfl ?_
      have b7 : 0 ≤ S 236 7 ∧ S 236 7 ≤ 99 := hB 236 7
      refine r_aload (pc' := 84) rfl rfl rfl ?_
      refine r_getr (pc' := 87) (v := 233) rfl rfl rfl rfl rfl ?_
      refine r_const (pc' := 89) rfl rfl ?_
      refine r_iload (pc' := 90) rfl rfl rfl ?_
      refine r_iadd (pc' := 91) rfl rfl ?_
      refine r_aldv (pc' := 92) (v := (S 233 (104 + g))) 187 rfl rfl rfl (by omega) rfl ?_
      have b8 := bdc_233_104 hB g
      refine r_iadd (pc' := 93) rfl rfl ?_
      refine r_aload (pc' := 94) rfl rfl rfl ?_
      refine r_getr (pc' := 97) (v := 233) rfl rfl rfl rfl rfl ?_
      refine r_const (pc' := 100) rfl rfl ?_
      refine r_aldv (pc' := 101) (v := (S 233 186)) 187 rfl rfl rfl (by omega) rfl ?_
      have b9 : 0 ≤ S 233 186 ∧ S 233 186 ≤ 99 := hB 233 186
      by_cases h10 : (S 233 186) < ((S 236 7) + (S 233 (104 + g)))
      · refine r_icmp_le0 (pc' := 104) rfl rfl (by omega) (by omega) ?_
        refine r_const (pc' := 106) rfl rfl ?_
        refine q_iret rfl rfl rfl ?_
        have ew : w_X11_through S g = ((-4), S) := by unfold w_X11_through; rw [if_pos h2, if_pos h6, if_pos h10]
        exact ⟨by rw [ew], by rw [ew], hB⟩
      · refine r_icmp_le1 (pc' := 107) rfl rfl (by omega) (by omega) ?_
        refine r_aload (pc' := 108) rfl rfl rfl ?_
        refine q_callE (pc' := 111) (w := none) (S2 := rmM S) (st' := []) rfl rfl rfl (c_X11_remember  (S := S) hB ) (by decide) rfl rfl (Nat.le_of_ble_eq_true rfl) (fun _ _ => ⟨_, _, rfl, rfl⟩) rfl rfl ?_
        have hB11 : Bd (rmM S) := Bd_rmM hB
        refine r_aload (pc' := 112) rfl rfl rfl ?_
        refine r_getr (pc' := 115) (v := 236) rfl rfl rfl rfl rfl ?_
        refine r_const (pc' := 117) rfl rfl ?_
        refine r_aload (pc' := 118) rfl rfl rfl ?_
        refine r_getr (pc' := 121) (v := 236) rfl rfl rfl rfl rfl ?_
        refine r_const (pc' := 123) rfl rfl ?_
        refine r_aldv (pc' := 124) (v := (S 236 11)) 12 rfl rfl rfl (by omega) (rmM_o (by omega)) ?_
        refine r_iload (pc' := 125) rfl rfl rfl ?_
        refine r_icmp_ne0 (pc' := 128) rfl rfl (by omega) (by omega) ?_
        refine r_iload (pc' := 129) rfl rfl rfl ?_
        refine r_goto (pc' := 133) rfl rfl ?_
        refine r_ast (pc' := 134) 12 rfl rfl rfl (by omega) ?_
        refine r_aload (pc' := 135) rfl rfl rfl ?_
        refine r_getr (pc' := 138) (v := 236) rfl rfl rfl rfl rfl ?_
        refine r_const (pc' := 140) rfl rfl ?_
        refine r_dup2 (pc' := 141) rfl rfl ?_
        refine r_aldv (pc' := 142) (v := (S 236 7)) 12 rfl rfl rfl (by omega) ((up_ne (by omega)).trans (rmM_o (by omega))) ?_
        refine r_aload (pc' := 143) rfl rfl rfl ?_
        refine r_getr (pc' := 146) (v := 233) rfl rfl rfl rfl rfl ?_
        refine r_const (pc' := 148) rfl rfl ?_
        refine r_iload (pc' := 149) rfl rfl rfl ?_
        refine r_iadd (pc' := 150) rfl rfl ?_
        refine r_aldv (pc' := 151) (v := (S 233 (104 + g))) 187 rfl rfl rfl (by omega) ((up_ne (by omega)).trans (rmM_o (by omega))) ?_
        refine r_iadd (pc' := 152) rfl rfl ?_
        refine r_ast (pc' := 153) 12 rfl rfl rfl (by omega) ?_
        refine r_aload (pc' := 154) rfl rfl rfl ?_
        refine r_getr (pc' := 157) (v := 236) rfl rfl rfl rfl rfl ?_
        refine r_const (pc' := 159) rfl rfl ?_
        refine r_aldv (pc' := 160) (v := (S 233 (95 + g))) 12 rfl rfl rfl (by omega) rfl ?_
        refine q_iret rfl rfl rfl ?_
        have ew : w_X11_through S g = ((S 233 (95 + g)), mx_up (mx_up (rmM S) 236 11 (S 233 (95 + g))) 236 7 ((S 236 7) + (S 233 (104 + g)))) := by unfold w_X11_through; rw [if_pos h2, if_pos h6, if_neg h10]
        exact ⟨by rw [ew], by rw [ew], (Bd_up (Bd_up hB11 (show (0 : Int) ≤ (S 233 (95 + g)) from by omega) (show (S 233 (95 + g)) ≤ (6 : Int) from by omega)) (show (0 : Int) ≤ ((S 236 7) + (S 233 (104 + g))) from by omega) (show ((S 236 7) + (S 233 (104 + g))) ≤ (99 : Int) from by omega))⟩
    · refine r_icmp_eq0 (pc' := 53) rfl rfl (by omega) (by omega) ?_
      refine r_aload (pc' := 54) rfl rfl rfl ?_
      refine r_getr (pc' := 57) (v := 236) rfl rfl rfl rfl rfl ?_
      refine r_const (pc' := 59) rfl rfl ?_
      refine r_aldv (pc' := 60) (v := (S 236 11)) 12 rfl rfl rfl (by omega) rfl ?_
      refine r_iload (pc' := 61) rfl rfl rfl ?_
      by_cases h12 : (S 236 11) = (S 233 (95 + g))
      · refine r_icmp_ne0 (pc' := 64) rfl rfl (by omega) (by omega) ?_
        refine r_const (pc' := 65) rfl rfl ?_
        refine r_goto (pc' := 69) rfl rfl ?_
        refine r_istore (pc' := 71) (ls' := [some (.inr (.inr 232)), some (.inl g), some (.inl (S 233 (86 + g))), some (.inl (S 233 (95 + g))), some (.inl 1)]) rfl rfl rfl rfl ?_
        refine r_iload (pc' := 73) rfl rfl rfl ?_
        refine r_if_eq0 (pc' := 76) rfl rfl (by decide) (by decide) ?_
        refine r_aload (pc' := 77) rfl rfl rfl ?_
        refine r_getr (pc' := 80) (v := 236) rfl rfl rfl rfl rfl ?_
        refine r_const (pc' := 82) rfl rfl ?_
        refine r_aldv (pc' := 83) (v := (S 236 7)) 12 rfl rfl rfl (by omega) rfl ?_
        have b13 : 0 ≤ S 236 7 ∧ S 236 7 ≤ 99 := hB 236 7
        refine r_aload (pc' := 84) rfl rfl rfl ?_
        refine r_getr (pc' := 87) (v := 233) rfl rfl rfl rfl rfl ?_
        refine r_const (pc' := 89) rfl rfl ?_
        refine r_iload (pc' := 90) rfl rfl rfl ?_
        refine r_iadd (pc' := 91) rfl rfl ?_
        refine r_aldv (pc' := 92) (v := (S 233 (104 + g))) 187 rfl rfl rfl (by omega) rfl ?_
        have b14 := bdc_233_104 hB g
        refine r_iadd (pc' := 93) rfl rfl ?_
        refine r_aload (pc' := 94) rfl rfl rfl ?_
        refine r_getr (pc' := 97) (v := 233) rfl rfl rfl rfl rfl ?_
        refine r_const (pc' := 100) rfl rfl ?_
        refine r_aldv (pc' := 101) (v := (S 233 186)) 187 rfl rfl rfl (by omega) rfl ?_
        have b15 : 0 ≤ S 233 186 ∧ S 233 186 ≤ 99 := hB 233 186
        by_cases h16 : (S 233 186) < ((S 236 7) + (S 233 (104 + g)))
        · refine r_icmp_le0 (pc' := 104) rfl rfl (by omega) (by omega) ?_
          refine r_const (pc' := 106) rfl rfl ?_
          refine q_iret rfl rfl rfl ?_
          have ew : w_X11_through S g = ((-4), S) := by unfold w_X11_through; rw [if_pos h2, if_neg h6, if_pos h12, if_pos h16]
          exact ⟨by rw [ew], by rw [ew], hB⟩
        · refine r_icmp_le1 (pc' := 107) rfl rfl (by omega) (by omega) ?_
          refine r_aload (pc' := 108) rfl rfl rfl ?_
          refine q_callE (pc' := 111) (w := none) (S2 := rmM S) (st' := []) rfl rfl rfl (c_X11_remember  (S := S) hB ) (by decide) rfl rfl (Nat.le_of_ble_eq_true rfl) (fun _ _ => ⟨_, _, rfl, rfl⟩) rfl rfl ?_
          have hB17 : Bd (rmM S) := Bd_rmM hB
          refine r_aload (pc' := 112) rfl rfl rfl ?_
          refine r_getr (pc' := 115) (v := 236) rfl rfl rfl rfl rfl ?_
          refine r_const (pc' := 117) rfl rfl ?_
          refine r_aload (pc' := 118) rfl rfl rfl ?_
          refine r_getr (pc' := 121) (v := 236) rfl rfl rfl rfl rfl ?_
          refine r_const (pc' := 123) rfl rfl ?_
          refine r_aldv (pc' := 124) (v := (S 236 11)) 12 rfl rfl rfl (by omega) (rmM_o (by omega)) ?_
          refine r_iload (pc' := 125) rfl rfl rfl ?_
          refine r_icmp_ne1 (pc' := 132) rfl rfl (by omega) (by omega) ?_
          refine r_iload (pc' := 133) rfl rfl rfl ?_
          refine r_ast (pc' := 134) 12 rfl rfl rfl (by omega) ?_
          refine r_aload (pc' := 135) rfl rfl rfl ?_
          refine r_getr (pc' := 138) (v := 236) rfl rfl rfl rfl rfl ?_
          refine r_const (pc' := 140) rfl rfl ?_
          refine r_dup2 (pc' := 141) rfl rfl ?_
          refine r_aldv (pc' := 142) (v := (S 236 7)) 12 rfl rfl rfl (by omega) ((up_ne (by omega)).trans (rmM_o (by omega))) ?_
          refine r_aload (pc' := 143) rfl rfl rfl ?_
          refine r_getr (pc' := 146) (v := 233) rfl rfl rfl rfl rfl ?_
          refine r_const (pc' := 148) rfl rfl ?_
          refine r_iload (pc' := 149) rfl rfl rfl ?_
          refine r_iadd (pc' := 150) rfl rfl ?_
          refine r_aldv (pc' := 151) (v := (S 233 (104 + g))) 187 rfl rfl rfl (by omega) ((up_ne (by omega)).trans (rmM_o (by omega))) ?_
          refine r_iadd (pc' := 152) rfl rfl ?_
          refine r_ast (pc' := 153) 12 rfl rfl rfl (by omega) ?_
          refine r_aload (pc' := 154) rfl rfl rfl ?_
          refine r_getr (pc' := 157) (v := 236) rfl rfl rfl rfl rfl ?_
          refine r_const (pc' := 159) rfl rfl ?_
          refine r_aldv (pc' := 160) (v := (S 233 (86 + g))) 12 rfl rfl rfl (by omega) rfl ?_
          refine q_iret rfl rfl rfl ?_
          have ew : w_X11_through S g = ((S 233 (86 + g)), mx_up (mx_up (rmM S) 236 11 (S 233 (86 + g))) 236 7 ((S 236 7) + (S 233 (104 + g)))) := by unfold w_X11_through; rw [if_pos h2, if_neg h6, if_pos h12, if_neg h16]
          exact ⟨by rw [ew], by rw [ew], (Bd_up (Bd_up hB17 (show (0 : Int) ≤ (S 233 (86 + g)) from by omega) (show (S 233 (86 + g)) ≤ (6 : Int) from by omega)) (show (0 : Int) ≤ ((S 236 7) + (S 233 (104 + g))) from by omega) (show ((S 236 7) + (S 233 (104 + g))) ≤ (99 : Int) from by omega))⟩
      · refine r_icmp_ne1 (pc' := 68) rfl rfl (by omega) (by omega) ?_
        refine r_const (pc' := 69) rfl rfl ?_
        refine r_istore (pc' := 71) (ls' := [some (.inr (.inr 232)), some (.inl g), some (.inl (S 233 (86 + g))), some (.inl (S 233 (95 + g))), some (.inl 0)]) rfl rfl rfl rfl ?_
        refine r_iload (pc' := 73) rfl rfl rfl ?_
        refine r_if_eq1 (pc' := 104) rfl rfl (by decide) (by decide) ?_
        refine r_const (pc' := 106) rfl rfl ?_
        refine q_iret rfl rfl rfl ?_
        have ew : w_X11_through S g = ((-4), S) := by unfold w_X11_through; rw [if_pos h2, if_neg h6, if_neg h12]
        exact ⟨by rw [ew], by rw [ew], hB⟩
  · skip
    refine q_callE (pc' := 16) (w := some (.inl 0)) (S2 := S) (st' := [.inl 0]) rfl rfl rfl (bi_neg h2 (c_X11_in (a := g) (b := 0) (c := ((S 233 85) - 1)) (S := S)  (show -2147483648 ≤ g ∧ g < 2147483648 from by omega) (show -2147483648 ≤ (0 : Int) ∧ (0 : Int) < 2147483648 from by omega) (show -2147483648 ≤ ((S 233 85) - 1) ∧ ((S 233 85) - 1) < 2147483648 from by omega))) (by decide) rfl rfl (Nat.le_of_ble_eq_true rfl) (fun q => absurd rfl q) rfl rfl ?_
    refine r_if_ne0 (pc' := 19) rfl rfl (by decide) (by decide) ?_
    refine r_const (pc' := 21) rfl rfl ?_
    refine q_iret rfl rfl rfl ?_
    have ew : w_X11_through S g = ((-2), S) := by unfold w_X11_through; rw [if_neg h2]
    exact ⟨by rw [ew], by rw [ew], hB⟩
noncomputable def w_X11_read (S : rS) : Int × rS := if (S 233 0) = 0 then ((-4), S) else if tb (S 236 9) (S 236 11) then ((-4), S) else if S 233 (1 + (S 236 11)) ≠ 1 ∨ S 236 10 < 5 then if (S 233 186) < ((S 236 7) + (mins (S 233 (1 + (S 236 11))) (pop (S 236 (0 + (S 236 11)))))) then ((-4), S) else ((pop (S 236 (0 + (S 236 11)))), mx_up (mx_up (rmM S) 236 7 ((S 236 7) + (mins ((rmM S) 233 (1 + (S 236 11))) (pop ((rmM S) 236 (0 + (S 236 11))))))) 236 9 (mx_or (S 236 9) (mx_shl 1 (S 236 11)))) else ((-4), S)
theorem c_X11_read {S : rS} (hB : Bd S) : CS 3 113 [.inr (.inr 232)] S (fun r' S' => r' = some (.inl ((w_X11_read S).1)) ∧ S' = (w_X11_read S).2 ∧ Bd S') := by
  refine RS.beg (ls := [some (.inr (.inr 232)), none]) rfl rfl rfl rfl rfl ?_
  have n0 : 0 ≤ S 233 0 ∧ S 233 0 ≤ 7 := hB 233 0
  have s7 : 0 ≤ S 236 7 ∧ S 236 7 ≤ 99 := hB 236 7
  have s8 : 0 ≤ S 236 8 ∧ S 236 8 ≤ 999 := hB 236 8
  have s9 : 0 ≤ S 236 9 ∧ S 236 9 ≤ 127 := hB 236 9
  have s10 : 0 ≤ S 236 10 ∧ S 236 10 ≤ 9 := hB 236 10
  have s11 : 0 ≤ S 236 11 ∧ S 236 11 ≤ 6 := hB 236 11
  have dk : 0 ≤ S 233 186 ∧ S 233 186 ≤ 99 := hB 233 186
  refine r_aload (pc' := 1) rfl rfl rfl ?_
  refine r_getr (pc' := 4) (v := 236) rfl rfl rfl rfl rfl ?_
  refine r_const (pc' := 6) rfl rfl ?_
  refine r_aldv (pc' := 7) (v := (S 236 11)) 12 rfl rfl rfl (by omega) rfl ?_
  have b1 : 0 ≤ S 236 11 ∧ S 236 11 ≤ 6 := hB 236 11
  refine r_istore (pc' := 8) (ls' := [some (.inr (.inr 232)), some (.inl (S 236 11))]) rfl rfl rfl rfl ?_
  refine r_aload (pc' := 9) rfl rfl rfl ?_
  refine r_getr (pc' := 12) (v := 233) rfl rfl rfl rfl rfl ?_
  refine r_const (pc' := 13) rfl rfl ?_
  refine r_aldv (pc' := 14) (v := (S 233 0)) 187 rfl rfl rfl (by omega) rfl ?_
  have b2 : 0 ≤ S 233 0 ∧ S 233 0 ≤ 7 := hB 233 0
  by_cases h3 : (S 233 0) = 0
  · refine r_if_eq1 (pc' := 63) rfl rfl (by omega) (by omega) ?_
    refine r_const (pc' := 65) rfl rfl ?_
    refine q_iret rfl rfl rfl ?_
    have ew : w_X11_read S = ((-4), S) := by unfold w_X11_read; rw [if_pos h3]
    exact ⟨by rw [ew], by rw [ew], hB⟩
  · refine r_if_eq0 (pc' := 17) rfl rfl (by omega) (by omega) ?_
    refine r_aload (pc' := 18) rfl rfl rfl ?_
    refine r_getr (pc' := 21) (v := 236) rfl rfl rfl rfl rfl ?_
    refine r_const (pc' := 23) rfl rfl ?_
    refine r_aldv (pc' := 24) (v := (S 236 9)) 12 rfl rfl rfl (by omega) rfl ?_
    have b4 : 0 ≤ S 236 9 ∧ S 236 9 ≤ 127 := hB 236 9
    refine r_iload (pc' := 25) rfl rfl rfl ?_
    by_cases h5 : tb (S 236 9) (S 236 11)
    · skip
      refine q_callE (pc' := 28) (w := some (.inl 1)) (S2 := S) (st' := [.inl 1]) rfl rfl rfl (bi_pos h5 (c_X11_has (s := (S 236 9)) (q := (S 236 11)) (S := S)  (show -2147483648 ≤ (S 236 9) ∧ (S 236 9) < 2147483648 from by omega) (show 0 ≤ (S 236 11) ∧ (S 236 11) < 32 from by omega))) (by decide) rfl rfl (Nat.le_of_ble_eq_true rfl) (fun q => absurd rfl q) rfl rfl ?_
      refine r_if_ne1 (pc' := 63) rfl rfl (by decide) (by decide) ?_
      refine r_const (pc' := 65) rfl rfl ?_
      refine q_iret rfl rfl rfl ?_
      have ew : w_X11_read S = ((-4), S) := by unfold w_X11_read; rw [if_neg h3, if_pos h5]
      exact ⟨by rw [ew], by rw [ew], hB⟩
    · skip
      refine q_callE (pc' := 28) (w := some (.inl 0)) (S2 := S) (st' := [.inl 0]) rfl rfl rfl (bi_neg h5 (c_X11_has (s := (S 236 9)) (q := (S 236 11)) (S := S)  (show -2147483648 ≤ (S 236 9) ∧ (S 236 9) < 2147483648 from by omega) (show 0 ≤ (S 236 11) ∧ (S 236 11) < 32 from by omega))) (by decide) rfl rfl (Nat.le_of_ble_eq_true rfl) (fun q => absurd rfl q) rfl rfl ?_
      refine r_if_ne0 (pc' := 31) rfl rfl (by decide) (by decide) ?_
      refine r_aload (pc' := 32) rfl rfl rfl ?_
      refine r_iload (pc' := 33) rfl rfl rfl ?_
      have b6 := bdc_233_1 hB (S 236 11)
      have b7 : 0 ≤ S 236 10 ∧ S 236 10 ≤ 9 := hB 236 10
      by_cases h8 : S 233 (1 + (S 236 11)) ≠ 1 ∨ S 236 10 < 5
      · skip
        refine q_callE (pc' := 36) (w := some (.inl 1)) (S2 := S) (st' := [.inl 1]) rfl rfl rfl (bi_pos h8 (c_X11_mayRead (f := (S 236 11)) (S := S) hB (show 0 ≤ (S 236 11) ∧ (S 236 11) < 7 from by omega))) (by decide) rfl rfl (Nat.le_of_ble_eq_true rfl) (fun _ _ => ⟨_, _, rfl, rfl⟩) rfl rfl ?_
        refine r_if_eq0 (pc' := 39) rfl rfl (by decide) (by decide) ?_
        refine r_aload (pc' := 40) rfl rfl rfl ?_
        refine r_getr (pc' := 43) (v := 236) rfl rfl rfl rfl rfl ?_
        refine r_const (pc' := 45) rfl rfl ?_
        refine r_aldv (pc' := 46) (v := (S 236 7)) 12 rfl rfl rfl (by omega) rfl ?_
        have b9 : 0 ≤ S 236 7 ∧ S 236 7 ≤ 99 := hB 236 7
        refine r_aload (pc' := 47) rfl rfl rfl ?_
        refine r_iload (pc' := 48) rfl rfl rfl ?_
        have b10 := bdc_236_0 hB (S 236 11)
        refine q_callE (pc' := 51) (w := some (.inl (mins (S 233 (1 + (S 236 11))) (pop (S 236 (0 + (S 236 11))))))) (S2 := S) (st' := [.inl (mins (S 233 (1 + (S 236 11))) (pop (S 236 (0 + (S 236 11))))), .inl (S 236 7)]) rfl rfl rfl (c_X11_minutesAt (f := (S 236 11)) (S := S) hB (show 0 ≤ (S 236 11) ∧ (S 236 11) < 7 from by omega)) (by decide) rfl rfl (Nat.le_of_ble_eq_true rfl) (fun _ _ => ⟨_, _, rfl, rfl⟩) rfl rfl ?_
        have b11 : 0 ≤ (mins (S 233 (1 + (S 236 11))) (pop (S 236 (0 + (S 236 11))))) ∧ (mins (S 233 (1 + (S 236 11))) (pop (S 236 (0 + (S 236 11))))) ≤ 34 := mM_r hB (by omega)
        refine r_iadd (pc' := 52) rfl rfl ?_
        refine r_aload (pc' := 53) rfl rfl rfl ?_
        refine r_getr (pc' := 56) (v := 233) rfl rfl rfl rfl rfl ?_
        refine r_const (pc' := 59) rfl rfl ?_
        refine r_aldv (pc' := 60) (v := (S 233 186)) 187 rfl rfl rfl (by omega) rfl ?_
        have b12 : 0 ≤ S 233 186 ∧ S 233 186 ≤ 99 := hB 233 186
        by_cases h13 : (S 233 186) < ((S 236 7) + (mins (S 233 (1 + (S 236 11))) (pop (S 236 (0 + (S 236 11))))))
        · refine r_icmp_le0 (pc' := 63) rfl rfl (by omega) (by omega) ?_
          refine r_const (pc' := 65) rfl rfl ?_
          refine q_iret rfl rfl rfl ?_
          have ew : w_X11_read S = ((-4), S) := by unfold w_X11_read; rw [if_neg h3, if_neg h5, if_pos h8, if_pos h13]
          exact ⟨by rw [ew], by rw [ew], hB⟩
        · refine r_icmp_le1 (pc' := 66) rfl rfl (by omega) (by omega) ?_
          refine r_aload (pc' := 67) rfl rfl rfl ?_
          refine q_callE (pc' := 70) (w := none) (S2 := rmM S) (st' := []) rfl rfl rfl (c_X11_remember  (S := S) hB ) (by decide) rfl rfl (Nat.le_of_ble_eq_true rfl) (fun _ _ => ⟨_, _, rfl, rfl⟩) rfl rfl ?_
          have hB14 : Bd (rmM S) := Bd_rmM hB
          refine r_aload (pc' := 71) rfl rfl rfl ?_
          refine r_getr (pc' := 74) (v := 236) rfl rfl rfl rfl rfl ?_
          refine r_const (pc' := 76) rfl rfl ?_
          refine r_dup2 (pc' := 77) rfl rfl ?_
          refine r_aldv (pc' := 78) (v := (S 236 7)) 12 rfl rfl rfl (by omega) (rmM_o (by omega)) ?_
          refine r_aload (pc' := 79) rfl rfl rfl ?_
          refine r_iload (pc' := 80) rfl rfl rfl ?_
          refine q_callE (pc' := 83) (w := some (.inl (mins ((rmM S) 233 (1 + (S 236 11))) (pop ((rmM S) 236 (0 + (S 236 11))))))) (S2 := (rmM S)) (st' := [.inl (mins ((rmM S) 233 (1 + (S 236 11))) (pop ((rmM S) 236 (0 + (S 236 11))))), .inl (S 236 7), .inl 7, .inr (.inr 236)]) rfl rfl rfl (c_X11_minutesAt (f := (S 236 11)) (S := (rmM S)) hB14 (show 0 ≤ (S 236 11) ∧ (S 236 11) < 7 from by omega)) (by decide) rfl rfl (Nat.le_of_ble_eq_true rfl) (fun _ _ => ⟨_, _, rfl, rfl⟩) rfl rfl ?_
          have b15 : 0 ≤ (mins ((rmM S) 233 (1 + (S 236 11))) (pop ((rmM S) 236 (0 + (S 236 11))))) ∧ (mins ((rmM S) 233 (1 + (S 236 11))) (pop ((rmM S) 236 (0 + (S 236 11))))) ≤ 34 := mM_r hB14 (by omega)
          have em : mins ((rmM S) 233 (1 + (S 236 11))) (pop ((rmM S) 236 (0 + (S 236 11)))) = mins (S 233 (1 + (S 236 11))) (pop (S 236 (0 + (S 236 11)))) := by rw [rmM_o (by omega), rmM_o (by omega)]
          refine r_iadd (pc' := 84) rfl rfl ?_
          refine r_ast (pc' := 85) 12 rfl rfl rfl (by omega) ?_
          refine r_aload (pc' := 86) rfl rfl rfl ?_
          refine r_getr (pc' := 89) (v := 236) rfl rfl rfl rfl rfl ?_
          refine r_const (pc' := 91) rfl rfl ?_
          refine r_dup2 (pc' := 92) rfl rfl ?_
          refine r_aldv (pc' := 93) (v := (S 236 9)) 12 rfl rfl rfl (by omega) ((up_ne (by omega)).trans (rmM_o (by omega))) ?_
          refine r_const (pc' := 94) rfl rfl ?_
          refine r_iload (pc' := 95) rfl rfl rfl ?_
          refine r_ishl (pc' := 96) rfl rfl ?_
          have b16 := mx_shl_r 1 (S 236 11)
          have e17 := shl_u (k := (S 236 11)) 7 (by omega) (by omega)
          refine r_ior (pc' := 97) rfl rfl ?_
          have b18 := mx_or_r (S 236 9) (mx_shl 1 (S 236 11))
          have e19 := or_u (a := S 236 9) (b := mx_shl 1 (S 236 11)) 7 (by omega) (by omega) (by omega) (by omega) (by omega)
          refine r_ast (pc' := 98) 12 rfl rfl rfl (by omega) ?_
          refine r_aload (pc' := 99) rfl rfl rfl ?_
          refine r_getr (pc' := 102) (v := 236) rfl rfl rfl rfl rfl ?_
          refine r_const (pc' := 103) rfl rfl ?_
          refine r_iload (pc' := 104) rfl rfl rfl ?_
          refine r_iadd (pc' := 105) rfl rfl ?_
          have l8 := lf8 hB (f := S 236 11) (by omega)
          refine r_aldv (pc' := 106) (v := (S 236 (0 + (S 236 11)))) 12 rfl rfl rfl (by omega) ((up_ne (by omega)).trans ((up_ne (by omega)).trans (rmM_o (by omega)))) ?_
          refine q_callE (pc' := 109) (w := some (.inl (pop (S 236 (0 + (S 236 11)))))) (S2 := mx_up (mx_up (rmM S) 236 7 ((S 236 7) + (mins ((rmM S) 233 (1 + (S 236 11))) (pop ((rmM S) 236 (0 + (S 236 11))))))) 236 9 (mx_or (S 236 9) (mx_shl 1 (S 236 11)))) (st' := [.inl (pop (S 236 (0 + (S 236 11))))]) rfl rfl rfl (c_X11_bits (a := (S 236 (0 + (S 236 11)))) (S := mx_up (mx_up (rmM S) 236 7 ((S 236 7) + (mins ((rmM S) 233 (1 + (S 236 11))) (pop ((rmM S) 236 (0 + (S 236 11))))))) 236 9 (mx_or (S 236 9) (mx_shl 1 (S 236 11))))  (show 0 ≤ (S 236 (0 + (S 236 11))) ∧ (S 236 (0 + (S 236 11))) < 512 from by omega)) (by decide) rfl rfl (Nat.le_of_ble_eq_true rfl) (fun q => absurd rfl q) rfl rfl ?_
          have b20 : 0 ≤ (pop (S 236 (0 + (S 236 11)))) ∧ (pop (S 236 (0 + (S 236 11)))) ≤ 9 := pop_r _
          refine q_iret rfl rfl rfl ?_
          have ew : w_X11_read S = ((pop (S 236 (0 + (S 236 11)))), mx_up (mx_up (rmM S) 236 7 ((S 236 7) + (mins ((rmM S) 233 (1 + (S 236 11))) (pop ((rmM S) 236 (0 + (S 236 11))))))) 236 9 (mx_or (S 236 9) (mx_shl 1 (S 236 11)))) := by unfold w_X11_read; rw [if_neg h3, if_neg h5, if_pos h8, if_neg h13]
          exact ⟨by rw [ew], by rw [ew], (Bd_up (Bd_up hB14 (show (0 : Int) ≤ ((S 236 7) + (mins ((rmM S) 233 (1 + (S 236 11))) (pop ((rmM S) 236 (0 + (S 236 11)))))) from by omega) (show ((S 236 7) + (mins ((rmM S) 233 (1 + (S 236 11))) (pop ((rmM S) 236 (0 + (S 236 11)))))) ≤ (99 : Int) from by omega)) (show (0 : Int) ≤ (mx_or (S 236 9) (mx_shl 1 (S 236 11))) from by omega) (show (mx_or (S 236 9) (mx_shl 1 (S 236 11))) ≤ (127 : Int) from by omega))⟩
      · skip
        refine q_callE (pc' := 36) (w := some (.inl 0)) (S2 := S) (st' := [.inl 0]) rfl rfl rfl (bi_neg h8 (c_X11_mayRead (f := (S 236 11)) (S := S) hB (show 0 ≤ (S 236 11) ∧ (S 236 11) < 7 from by omega))) (by decide) rfl rfl (Nat.le_of_ble_eq_true rfl) (fun _ _ => ⟨_, _, rfl, rfl⟩) rfl rfl ?_
        refine r_if_eq1 (pc' := 63) rfl rfl (by decide) (by decide) ?_
        refine r_const (pc' := 65) rfl rfl ?_
        refine q_iret rfl rfl rfl ?_
        have ew : w_X11_read S = ((-4), S) := by unfold w_X11_read; rw [if_neg h3, if_neg h5, if_neg h8]
        exact ⟨by rw [ew], by rw [ew], hB⟩
noncomputable def w_X11_rain (S : rS) (r : Int) : Int × rS := if (1 : Int) ≤ r ∧ r ≤ (9 : Int) then (((sm (fun kk => pop ((rmM S) 236 (0 + kk))) 7) - (sm (fun kk => pop ((mx_up (fl (rmM S) 236 (fun kk => mx_and (S 236 kk) (mx_xor (rnm (S 233 (1 + kk)) (S 236 kk) r) (-1))) (S 233 0)) 236 10 r) 236 (0 + kk))) 7)), mx_up (fl (rmM S) 236 (fun kk => mx_and (S 236 kk) (mx_xor (rnm (S 233 (1 + kk)) (S 236 kk) r) (-1))) (S 233 0)) 236 10 r) else ((-3), S)
theorem c_X11_rain {r : Int} {S : rS} (hB : Bd S) (h_r : -2147483648 ≤ r ∧ r < 2147483648) : CS 3 111 [.inr (.inr 232), .inl r] S (fun r' S' => r' = some (.inl ((w_X11_rain S r).1)) ∧ S' = (w_X11_rain S r).2 ∧ Bd S') := by
  refine RS.beg (ls := [some (.inr (.inr 232)), some (.inl r), none, none]) rfl rfl rfl rfl rfl ?_
  have n0 : 0 ≤ S 233 0 ∧ S 233 0 ≤ 7 := hB 233 0
  refine r_iload (pc' := 1) rfl rfl rfl ?_
  refine r_i2l (pc' := 2) rfl rfl (by omega) ?_
  refine r_lcon (pc' := 3) rfl rfl ?_
  refine r_lcon (pc' := 6) rfl rfl ?_
  by_cases h1 : (1 : Int) ≤ r ∧ r ≤ (9 : Int)
  · skip
    refine q_callE (pc' := 9) (w := some (.inl 1)) (S2 := S) (st' := [.inl 1]) rfl rfl rfl (bi_pos h1 (c_X11_in (a := r) (b := 1) (c := 9) (S := S)  (show -2147483648 ≤ r ∧ r < 2147483648 from by omega) (show -2147483648 ≤ (1 : Int) ∧ (1 : Int) < 2147483648 from by omega) (show -2147483648 ≤ (9 : Int) ∧ (9 : Int) < 2147483648 from by omega))) (by decide) rfl rfl (Nat.le_of_ble_eq_true rfl) (fun q => absurd rfl q) rfl rfl ?_
    refine r_if_ne1 (pc' := 15) rfl rfl (by decide) (by decide) ?_
    refine r_aload (pc' := 16) rfl rfl rfl ?_
    refine q_callE (pc' := 19) (w := none) (S2 := rmM S) (st' := []) rfl rfl rfl (c_X11_remember  (S := S) hB ) (by decide) rfl rfl (Nat.le_of_ble_eq_true rfl) (fun _ _ => ⟨_, _, rfl, rfl⟩) rfl rfl ?_
    have hB2 : Bd (rmM S) := Bd_rmM hB
    refine r_aload (pc' := 20) rfl rfl rfl ?_
    refine q_callE (pc' := 23) (w := some (.inl (sm (fun kk => pop ((rmM S) 236 (0 + kk))) 7))) (S2 := (rmM S)) (st' := [.inl (sm (fun kk => pop ((rmM S) 236 (0 + kk))) 7)]) rfl rfl rfl (c_X11_leftInAll  (S := (rmM S)) hB2 ) (by decide) rfl rfl (Nat.le_of_ble_eq_true rfl) (fun _ _ => ⟨_, _, rfl, rfl⟩) rfl rfl ?_
    have b3 : 0 ≤ (sm (fun kk => pop ((rmM S) 236 (0 + kk))) 7) ∧ (sm (fun kk => pop ((rmM S) 236 (0 + kk))) 7) ≤ 63 := lf63
    refine r_istore (pc' := 24) (ls' := [some (.inr (.inr 232)), some (.inl r), some (.inl (sm (fun kk => pop ((rmM S) 236 (0 + kk))) 7)), none]) rfl rfl rfl rfl ?_
    refine r_const (pc' := 25) rfl rfl ?_
    refine r_istore (pc' := 26) (ls' := [some (.inr (.inr 232)), some (.inl r), some (.inl (sm (fun kk => pop ((rmM S) 236 (0 + kk))) 7)), some (.inl 0)]) rfl rfl rfl rfl ?_
    refine r_mem (show (rmM S) = fl (rmM S) 236 (fun kk => mx_and (S 236 kk) (mx_xor (rnm (S 233 (1 + kk)) (S 236 kk) r) (-1))) (0 : Int) from by exact fl_0 _ _ _) ?_
    refine r_while (α := Int) (fun z' => [some (.inr (.inr 232)), some (.inl r), some (.inl (sm (fun kk => pop ((rmM S) 236 (0 + kk))) 7)), some (.inl z')]) (fun z' => fl (rmM S) 236 (fun kk => mx_and (S 236 kk) (mx_xor (rnm (S 233 (1 + kk)) (S 236 kk) r) (-1))) z') (fun z' => (0 ≤ z' ∧ z' ≤ S 233 0)) (fun z' => (S 233 0 - z').toNat) ?_ 0 (show (0 ≤ (0 : Int) ∧ (0 : Int) ≤ S 233 0) from by omega)
    rintro f hI' ih26
    have hI' : (0 ≤ f ∧ f ≤ S 233 0) := hI'
    have i1 := hI'
    show RS _ _ _ _ [some (.inr (.inr 232)), some (.inl r), some (.inl (sm (fun kk => pop ((rmM S) 236 (0 + kk))) 7)), some (.inl f)] [] (fl (rmM S) 236 (fun kk => mx_and (S 236 kk) (mx_xor (rnm (S 233 (1 + kk)) (S 236 kk) r) (-1))) f)
    have b4 : 0 ≤ S 233 0 ∧ S 233 0 ≤ 7 := hB 233 0
    have hB5 : Bd (fl (rmM S) 236 (fun kk => mx_and (S 236 kk) (mx_xor (rnm (S 233 (1 + kk)) (S 236 kk) r) (-1))) f) := by exact Bd_fl (Bd_rmM hB) (fun k k0 k1 => by have q := lf8 hB (f := k) (by omega); rw [Int.zero_add] at q; have q2 := and_u (a := S 236 k) (b := mx_xor (rnm (S 233 (1 + k)) (S 236 k) r) (-1)) 8 (by omega) (by omega) (by omega); have q3 : bd_lo 236 k = 0 ∧ bd_hi 236 k = 255 := ⟨if_pos ⟨k0, by omega⟩, if_pos ⟨k0, by omega⟩⟩; show bd_lo 236 k ≤ mx_and _ _ ∧ mx_and _ _ ≤ _; rw [q3.1, q3.2]; exact ⟨q2.1, Int.le_of_lt_add_one q2.2⟩)
    refine r_iload (pc' := 27) rfl rfl rfl ?_
    refine r_aload (pc' := 28) rfl rfl rfl ?_
    refine r_getr (pc' := 31) (v := 233) rfl rfl rfl rfl rfl ?_
    refine r_const (pc' := 32) rfl rfl ?_
    refine r_aldv (pc' := 33) (v := (S 233 0)) 187 rfl rfl rfl (by omega) ((fl_o (by omega)).trans (rmM_o (by omega))) ?_
    by_cases h6 : f < (S 233 0)
    · refine r_icmp_ge0 (pc' := 36) rfl rfl (by omega) (by omega) ?_
      refine r_aload (pc' := 37) rfl rfl rfl ?_
      refine r_getr (pc' := 40) (v := 236) rfl rfl rfl rfl rfl ?_
      refine r_const (pc' := 41) rfl rfl ?_
      refine r_iload (pc' := 42) rfl rfl rfl ?_
      refine r_iadd (pc' := 43) rfl rfl ?_
      refine r_dup2 (pc' := 44) rfl rfl ?_
      refine r_aldv (pc' := 45) (v := (S 236 (0 + f))) 12 rfl rfl rfl (by omega) ((fl_hi (by omega)).trans (rmM_o (by omega))) ?_
      have b7 := bdc_236_0 hB f
      refine r_aload (pc' := 46) rfl rfl rfl ?_
      refine r_iload (pc' := 47) rfl rfl rfl ?_
      refine r_iload (pc' := 48) rfl rfl rfl ?_
      refine q_callE (pc' := 51) (w := some (.inl (rnm ((fl (rmM S) 236 (fun kk => mx_and (S 236 kk) (mx_xor (rnm (S 233 (1 + kk)) (S 236 kk) r) (-1))) f) 233 (1 + f)) ((fl (rmM S) 236 (fun kk => mx_and (S 236 kk) (mx_xor (rnm (S 233 (1 + kk)) (S 236 kk) r) (-1))) f) 236 (0 + f)) r))) (S2 := (fl (rmM S) 236 (fun kk => mx_and (S 236 kk) (mx_xor (rnm (S 233 (1 + kk)) (S 236 kk) r) (-1))) f)) (st' := [.inl (rnm ((fl (rmM S) 236 (fun kk => mx_and (S 236 kk) (mx_xor (rnm (S 233 (1 + kk)) (S 236 kk) r) (-1))) f) 233 (1 + f)) ((fl (rmM S) 236 (fun kk => mx_and (S 236 kk) (mx_xor (rnm (S 233 (1 + kk)) (S 236 kk) r) (-1))) f) 236 (0 + f)) r), .inl (S 236 (0 + f)), .inl (0 + f), .inr (.inr 236)]) rfl rfl rfl (c_X11_rainAt (f := f) (r := r) (S := (fl (rmM S) 236 (fun kk => mx_and (S 236 kk) (mx_xor (rnm (S 233 (1 + kk)) (S 236 kk) r) (-1))) f)) hB5 (show 0 ≤ f ∧ f < 7 from by omega) (show 1 ≤ r ∧ r ≤ 9 from by omega)) (by decide) rfl rfl (Nat.le_of_ble_eq_true rfl) (fun _ _ => ⟨_, _, rfl, rfl⟩) rfl rfl ?_
      have b8 : 0 ≤ (rnm ((fl (rmM S) 236 (fun kk => mx_and (S 236 kk) (mx_xor (rnm (S 233 (1 + kk)) (S 236 kk) r) (-1))) f) 233 (1 + f)) ((fl (rmM S) 236 (fun kk => mx_and (S 236 kk) (mx_xor (rnm (S 233 (1 + kk)) (S 236 kk) r) (-1))) f) 236 (0 + f)) r) ∧ (rnm ((fl (rmM S) 236 (fun kk => mx_and (S 236 kk) (mx_xor (rnm (S 233 (1 + kk)) (S 236 kk) r) (-1))) f) 233 (1 + f)) ((fl (rmM S) 236 (fun kk => mx_and (S 236 kk) (mx_xor (rnm (S 233 (1 + kk)) (S 236 kk) r) (-1))) f) 236 (0 + f)) r) < 256 := rnm_r
      refine r_const (pc' := 52) rfl rfl ?_
      refine r_ixor (pc' := 53) rfl rfl ?_
      have b9 := mx_xor_r (rnm ((fl (rmM S) 236 (fun kk => mx_and (S 236 kk) (mx_xor (rnm (S 233 (1 + kk)) (S 236 kk) r) (-1))) f) 233 (1 + f)) ((fl (rmM S) 236 (fun kk => mx_and (S 236 kk) (mx_xor (rnm (S 233 (1 + kk)) (S 236 kk) r) (-1))) f) 236 (0 + f)) r) (-1)
      refine r_iand (pc' := 54) rfl rfl ?_
      have b10 := mx_and_r (S 236 (0 + f)) (mx_xor (rnm ((fl (rmM S) 236 (fun kk => mx_and (S 236 kk) (mx_xor (rnm (S 233 (1 + kk)) (S 236 kk) r) (-1))) f) 233 (1 + f)) ((fl (rmM S) 236 (fun kk => mx_and (S 236 kk) (mx_xor (rnm (S 233 (1 + kk)) (S 236 kk) r) (-1))) f) 236 (0 + f)) r) (-1))
      refine r_ast (pc' := 55) 12 rfl rfl rfl (by omega) ?_
      refine r_iinc (pc' := 58) (ls' := [some (.inr (.inr 232)), some (.inl r), some (.inl (sm (fun kk => pop ((rmM S) 236 (0 + kk))) 7)), some (.inl (f + 1))]) rfl rfl rfl rfl rfl ?_
      refine r_goto (pc' := 26) rfl rfl ?_
      refine r_mem (show mx_up (fl (rmM S) 236 (fun kk => mx_and (S 236 kk) (mx_xor (rnm (S 233 (1 + kk)) (S 236 kk) r) (-1))) f) 236 (0 + f) (mx_and (S 236 (0 + f)) (mx_xor (rnm ((fl (rmM S) 236 (fun kk => mx_and (S 236 kk) (mx_xor (rnm (S 233 (1 + kk)) (S 236 kk) r) (-1))) f) 233 (1 + f)) ((fl (rmM S) 236 (fun kk => mx_and (S 236 kk) (mx_xor (rnm (S 233 (1 + kk)) (S 236 kk) r) (-1))) f) 236 (0 + f)) r) (-1))) = fl (rmM S) 236 (fun kk => mx_and (S 236 kk) (mx_xor (rnm (S 233 (1 + kk)) (S 236 kk) r) (-1))) (f + 1) from by have eB : fl (rmM S) 236 (fun kk => mx_and (S 236 kk) (mx_xor (rnm (S 233 (1 + kk)) (S 236 kk) r) (-1))) f 236 (0 + f) = S 236 (0 + f) := (fl_hi (by omega)).trans (rmM_o (by omega)); have eC : ∀ j, fl (rmM S) 236 (fun kk => mx_and (S 236 kk) (mx_xor (rnm (S 233 (1 + kk)) (S 236 kk) r) (-1))) f 233 j = S 233 j := fun j => (fl_o (by omega)).trans (rmM_o (by omega)); have e0 : (0 : Int) + f = f := Int.zero_add f; have eb : rnm (fl (rmM S) 236 (fun kk => mx_and (S 236 kk) (mx_xor (rnm (S 233 (1 + kk)) (S 236 kk) r) (-1))) f 233 (1 + f)) (fl (rmM S) 236 (fun kk => mx_and (S 236 kk) (mx_xor (rnm (S 233 (1 + kk)) (S 236 kk) r) (-1))) f 236 (0 + f)) r = rnm (S 233 (1 + f)) (S 236 f) r  := (by rw [eB, eC, e0]); exact fl_s2 (by omega) e0 (congr (congrArg mx_and (congrArg (S 236) e0)) (congrArg (fun z => mx_xor z (-1)) eb))) ?_
      exact ih26 (f + 1) (show (0 ≤ (f + 1) ∧ (f + 1) ≤ S 233 0) from by omega) (show (S 233 0 - (f + 1)).toNat < (S 233 0 - f).toNat from by omega)
    · refine r_icmp_ge1 (pc' := 61) rfl rfl (by omega) (by omega) ?_
      refine r_aload (pc' := 62) rfl rfl rfl ?_
      refine r_getr (pc' := 65) (v := 236) rfl rfl rfl rfl rfl ?_
      refine r_const (pc' := 67) rfl rfl ?_
      refine r_iload (pc' := 68) rfl rfl rfl ?_
      refine r_ast (pc' := 69) 12 rfl rfl rfl (by omega) ?_
      refine r_iload (pc' := 70) rfl rfl rfl ?_
      refine r_aload (pc' := 71) rfl rfl rfl ?_
      refine q_callE (pc' := 74) (w := some (.inl (sm (fun kk => pop ((mx_up (fl (rmM S) 236 (fun kk => mx_and (S 236 kk) (mx_xor (rnm (S 233 (1 + kk)) (S 236 kk) r) (-1))) f) 236 10 r) 236 (0 + kk))) 7))) (S2 := mx_up (fl (rmM S) 236 (fun kk => mx_and (S 236 kk) (mx_xor (rnm (S 233 (1 + kk)) (S 236 kk) r) (-1))) f) 236 10 r) (st' := [.inl (sm (fun kk => pop ((mx_up (fl (rmM S) 236 (fun kk => mx_and (S 236 kk) (mx_xor (rnm (S 233 (1 + kk)) (S 236 kk) r) (-1))) f) 236 10 r) 236 (0 + kk))) 7), .inl (sm (fun kk => pop ((rmM S) 236 (0 + kk))) 7)]) rfl rfl rfl (c_X11_leftInAll  (S := mx_up (fl (rmM S) 236 (fun kk => mx_and (S 236 kk) (mx_xor (rnm (S 233 (1 + kk)) (S 236 kk) r) (-1))) f) 236 10 r) (Bd_up hB5 (show (0 : Int) ≤ r from by omega) (show r ≤ (9 : Int) from by omega)) ) (by decide) rfl rfl (Nat.le_of_ble_eq_true rfl) (fun _ _ => ⟨_, _, rfl, rfl⟩) rfl rfl ?_
      have b11 : 0 ≤ (sm (fun kk => pop ((mx_up (fl (rmM S) 236 (fun kk => mx_and (S 236 kk) (mx_xor (rnm (S 233 (1 + kk)) (S 236 kk) r) (-1))) f) 236 10 r) 236 (0 + kk))) 7) ∧ (sm (fun kk => pop ((mx_up (fl (rmM S) 236 (fun kk => mx_and (S 236 kk) (mx_xor (rnm (S 233 (1 + kk)) (S 236 kk) r) (-1))) f) 236 10 r) 236 (0 + kk))) 7) ≤ 63 := lf63
      refine r_isub (pc' := 75) rfl rfl ?_
      refine q_iret rfl rfl rfl ?_
      obtain rfl : S 233 0 = f := by omega
      have ew : w_X11_rain S r = (((sm (fun kk => pop ((rmM S) 236 (0 + kk))) 7) - (sm (fun kk => pop ((mx_up (fl (rmM S) 236 (fun kk => mx_and (S 236 kk) (mx_xor (rnm (S 233 (1 + kk)) (S 236 kk) r) (-1))) (S 233 0)) 236 10 r) 236 (0 + kk))) 7)), mx_up (fl (rmM S) 236 (fun kk => mx_and (S 236 kk) (mx_xor (rnm (S 233 (1 + kk)) (S 236 kk) r) (-1))) (S 233 0)) 236 10 r) := by unfold w_X11_rain; rw [if_pos h1]
      exact ⟨by rw [ew], by rw [ew], (Bd_up hB5 (show (0 : Int) ≤ r from by omega) (show r ≤ (9 : Int) from by omega))⟩
  · skip
    refine q_callE (pc' := 9) (w := some (.inl 0)) (S2 := S) (st' := [.inl 0]) rfl rfl rfl (bi_neg h1 (c_X11_in (a := r) (b := 1) (c := 9) (S := S)  (show -2147483648 ≤ r ∧ r < 2147483648 from by omega) (show -2147483648 ≤ (1 : Int) ∧ (1 : Int) < 2147483648 from by omega) (show -2147483648 ≤ (9 : Int) ∧ (9 : Int) < 2147483648 from by omega))) (by decide) rfl rfl (Nat.le_of_ble_eq_true rfl) (fun q => absurd rfl q) rfl rfl ?_
    refine r_if_ne0 (pc' := 12) rfl rfl (by decide) (by decide) ?_
    refine r_const (pc' := 14) rfl rfl ?_
    refine q_iret rfl rfl rfl ?_
    have ew : w_X11_rain S r = ((-3), S) := by unfold w_X11_rain; rw [if_neg h1]
    exact ⟨by rw [ew], by rw [ew], hB⟩
noncomputable def w_X11_birds (S : rS) : Int × rS := (((sm (fun kk => pop ((rmM S) 236 (0 + kk))) 7) - (sm (fun kk => pop ((fl (rmM S) 236 (fun kk => mx_and (S 236 kk) (mx_xor (bpM S kk) (-1))) (S 233 0)) 236 (0 + kk))) 7)), (fl (rmM S) 236 (fun kk => mx_and (S 236 kk) (mx_xor (bpM S kk) (-1))) (S 233 0)))
theorem c_X11_birds {S : rS} (hB : Bd S) : CS 3 61 [.inr (.inr 232)] S (fun r' S' => r' = some (.inl ((w_X11_birds S).1)) ∧ S' = (w_X11_birds S).2 ∧ Bd S') := by
  refine RS.beg (ls := [some (.inr (.inr 232)), none, none]) rfl rfl rfl rfl rfl ?_
  have n0 : 0 ≤ S 233 0 ∧ S 233 0 ≤ 7 := hB 233 0
  refine r_aload (pc' := 1) rfl rfl rfl ?_
  refine q_callE (pc' := 4) (w := none) (S2 := rmM S) (st' := []) rfl rfl rfl (c_X11_remember  (S := S) hB ) (by decide) rfl rfl (Nat.le_of_ble_eq_true rfl) (fun _ _ => ⟨_, _, rfl, rfl⟩) rfl rfl ?_
  have hB1 : Bd (rmM S) := Bd_rmM hB
  refine r_aload (pc' := 5) rfl rfl rfl ?_
  refine q_callE (pc' := 8) (w := some (.inl (sm (fun kk => pop ((rmM S) 236 (0 + kk))) 7))) (S2 := (rmM S)) (st' := [.inl (sm (fun kk => pop ((rmM S) 236 (0 + kk))) 7)]) rfl rfl rfl (c_X11_leftInAll  (S := (rmM S)) hB1 ) (by decide) rfl rfl (Nat.le_of_ble_eq_true rfl) (fun _ _ => ⟨_, _, rfl, rfl⟩) rfl rfl ?_
  have b2 : 0 ≤ (sm (fun kk => pop ((rmM S) 236 (0 + kk))) 7) ∧ (sm (fun kk => pop ((rmM S) 236 (0 + kk))) 7) ≤ 63 := lf63
  refine r_istore (pc' := 9) (ls' := [some (.inr (.inr 232)), some (.inl (sm (fun kk => pop ((rmM S) 236 (0 + kk))) 7)), none]) rfl rfl rfl rfl ?_
  refine r_const (pc' := 10) rfl rfl ?_
  refine r_istore (pc' := 11) (ls' := [some (.inr (.inr 232)), some (.inl (sm (fun kk => pop ((rmM S) 236 (0 + kk))) 7)), some (.inl 0)]) rfl rfl rfl rfl ?_
  refine r_mem (show (rmM S) = fl (rmM S) 236 (fun kk => mx_and (S 236 kk) (mx_xor (bpM S kk) (-1))) (0 : Int) from by exact fl_0 _ _ _) ?_
  refine r_while (α := Int) (fun z' => [some (.inr (.inr 232)), some (.inl (sm (fun kk => pop ((rmM S) 236 (0 + kk))) 7)), some (.inl z')]) (fun z' => fl (rmM S) 236 (fun kk => mx_and (S 236 kk) (mx_xor (bpM S kk) (-1))) z') (fun z' => (0 ≤ z' ∧ z' ≤ S 233 0)) (fun z' => (S 233 0 - z').toNat) ?_ 0 (show (0 ≤ (0 : Int) ∧ (0 : Int) ≤ S 233 0) from by omega)
  rintro f hI' ih11
  have hI' : (0 ≤ f ∧ f ≤ S 233 0) := hI'
  have i1 := hI'
  show RS _ _ _ _ [some (.inr (.inr 232)), some (.inl (sm (fun kk => pop ((rmM S) 236 (0 + kk))) 7)), some (.inl f)] [] (fl (rmM S) 236 (fun kk => mx_and (S 236 kk) (mx_xor (bpM S kk) (-1))) f)
  have b3 : 0 ≤ S 233 0 ∧ S 233 0 ≤ 7 := hB 233 0
  have hB4 : Bd (fl (rmM S) 236 (fun kk => mx_and (S 236 kk) (mx_xor (bpM S kk) (-1))) f) := by exact Bd_fl (Bd_rmM hB) (fun k k0 k1 => by have q := lf8 hB (f := k) (by omega); rw [Int.zero_add] at q; have q2 := and_u (a := S 236 k) (b := mx_xor (bpM S k) (-1)) 8 (by omega) (by omega) (by omega); have q3 : bd_lo 236 k = 0 ∧ bd_hi 236 k = 255 := ⟨if_pos ⟨k0, by omega⟩, if_pos ⟨k0, by omega⟩⟩; show bd_lo 236 k ≤ mx_and _ _ ∧ mx_and _ _ ≤ _; rw [q3.1, q3.2]; exact ⟨q2.1, Int.le_of_lt_add_one q2.2⟩)
  refine r_iload (pc' := 12) rfl rfl rfl ?_
  refine r_aload (pc' := 13) rfl rfl rfl ?_
  refine r_getr (pc' := 16) (v := 233) rfl rfl rfl rfl rfl ?_
  refine r_const (pc' := 17) rfl rfl ?_
  refine r_aldv (pc' := 18) (v := (S 233 0)) 187 rfl rfl rfl (by omega) ((fl_o (by omega)).trans (rmM_o (by omega))) ?_
  by_cases h5 : f < (S 233 0)
  · refine r_icmp_ge0 (pc' := 21) rfl rfl (by omega) (by omega) ?_
    refine r_aload (pc' := 22) rfl rfl rfl ?_
    refine r_getr (pc' := 25) (v := 236) rfl rfl rfl rfl rfl ?_
    refine r_const (pc' := 26) rfl rfl ?_
    refine r_iload (pc' := 27) rfl rfl rfl ?_
    refine r_iadd (pc' := 28) rfl rfl ?_
    refine r_dup2 (pc' := 29) rfl rfl ?_
    refine r_aldv (pc' := 30) (v := (S 236 (0 + f))) 12 rfl rfl rfl (by omega) ((fl_hi (by omega)).trans (rmM_o (by omega))) ?_
    have b6 := bdc_236_0 hB f
    refine r_aload (pc' := 31) rfl rfl rfl ?_
    refine r_iload (pc' := 32) rfl rfl rfl ?_
    refine q_callE (pc' := 35) (w := some (.inl (bs (fun kk => tb ((fl (rmM S) 236 (fun kk => mx_and (S 236 kk) (mx_xor (bpM S kk) (-1))) f) 236 (0 + f)) kk ∧ btake ((fl (rmM S) 236 (fun kk => mx_and (S 236 kk) (mx_xor (bpM S kk) (-1))) f) 233 (1 + f)) ((fl (rmM S) 236 (fun kk => mx_and (S 236 kk) (mx_xor (bpM S kk) (-1))) f) 233 (29 + 8 * f + kk))) ((fl (rmM S) 236 (fun kk => mx_and (S 236 kk) (mx_xor (bpM S kk) (-1))) f) 233 (22 + f))))) (S2 := (fl (rmM S) 236 (fun kk => mx_and (S 236 kk) (mx_xor (bpM S kk) (-1))) f)) (st' := [.inl (bs (fun kk => tb ((fl (rmM S) 236 (fun kk => mx_and (S 236 kk) (mx_xor (bpM S kk) (-1))) f) 236 (0 + f)) kk ∧ btake ((fl (rmM S) 236 (fun kk => mx_and (S 236 kk) (mx_xor (bpM S kk) (-1))) f) 233 (1 + f)) ((fl (rmM S) 236 (fun kk => mx_and (S 236 kk) (mx_xor (bpM S kk) (-1))) f) 233 (29 + 8 * f + kk))) ((fl (rmM S) 236 (fun kk => mx_and (S 236 kk) (mx_xor (bpM S kk) (-1))) f) 233 (22 + f))), .inl (S 236 (0 + f)), .inl (0 + f), .inr (.inr 236)]) rfl rfl rfl (c_X11_birdsAt (f := f) (S := (fl (rmM S) 236 (fun kk => mx_and (S 236 kk) (mx_xor (bpM S kk) (-1))) f)) hB4 (show 0 ≤ f ∧ f < 7 from by omega)) (by decide) rfl rfl (Nat.le_of_ble_eq_true rfl) (fun _ _ => ⟨_, _, rfl, rfl⟩) rfl rfl ?_
    have b7 : 0 ≤ (bs (fun kk => tb ((fl (rmM S) 236 (fun kk => mx_and (S 236 kk) (mx_xor (bpM S kk) (-1))) f) 236 (0 + f)) kk ∧ btake ((fl (rmM S) 236 (fun kk => mx_and (S 236 kk) (mx_xor (bpM S kk) (-1))) f) 233 (1 + f)) ((fl (rmM S) 236 (fun kk => mx_and (S 236 kk) (mx_xor (bpM S kk) (-1))) f) 233 (29 + 8 * f + kk))) ((fl (rmM S) 236 (fun kk => mx_and (S 236 kk) (mx_xor (bpM S kk) (-1))) f) 233 (22 + f))) ∧ (bs (fun kk => tb ((fl (rmM S) 236 (fun kk => mx_and (S 236 kk) (mx_xor (bpM S kk) (-1))) f) 236 (0 + f)) kk ∧ btake ((fl (rmM S) 236 (fun kk => mx_and (S 236 kk) (mx_xor (bpM S kk) (-1))) f) 233 (1 + f)) ((fl (rmM S) 236 (fun kk => mx_and (S 236 kk) (mx_xor (bpM S kk) (-1))) f) 233 (29 + 8 * f + kk))) ((fl (rmM S) 236 (fun kk => mx_and (S 236 kk) (mx_xor (bpM S kk) (-1))) f) 233 (22 + f))) < 256 := bs8 (by have q := bdc_233_22 hB4 f; omega)
    refine r_const (pc' := 36) rfl rfl ?_
    refine r_ixor (pc' := 37) rfl rfl ?_
    have b8 := mx_xor_r (bs (fun kk => tb ((fl (rmM S) 236 (fun kk => mx_and (S 236 kk) (mx_xor (bpM S kk) (-1))) f) 236 (0 + f)) kk ∧ btake ((fl (rmM S) 236 (fun kk => mx_and (S 236 kk) (mx_xor (bpM S kk) (-1))) f) 233 (1 + f)) ((fl (rmM S) 236 (fun kk => mx_and (S 236 kk) (mx_xor (bpM S kk) (-1))) f) 233 (29 + 8 * f + kk))) ((fl (rmM S) 236 (fun kk => mx_and (S 236 kk) (mx_xor (bpM S kk) (-1))) f) 233 (22 + f))) (-1)
    refine r_iand (pc' := 38) rfl rfl ?_
    have b9 := mx_and_r (S 236 (0 + f)) (mx_xor (bs (fun kk => tb ((fl (rmM S) 236 (fun kk => mx_and (S 236 kk) (mx_xor (bpM S kk) (-1))) f) 236 (0 + f)) kk ∧ btake ((fl (rmM S) 236 (fun kk => mx_and (S 236 kk) (mx_xor (bpM S kk) (-1))) f) 233 (1 + f)) ((fl (rmM S) 236 (fun kk => mx_and (S 236 kk) (mx_xor (bpM S kk) (-1))) f) 233 (29 + 8 * f + kk))) ((fl (rmM S) 236 (fun kk => mx_and (S 236 kk) (mx_xor (bpM S kk) (-1))) f) 233 (22 + f))) (-1))
    refine r_ast (pc' := 39) 12 rfl rfl rfl (by omega) ?_
    refine r_iinc (pc' := 42) (ls' := [some (.inr (.inr 232)), some (.inl (sm (fun kk => pop ((rmM S) 236 (0 + kk))) 7)), some (.inl (f + 1))]) rfl rfl rfl rfl rfl ?_
    refine r_goto (pc' := 11) rfl rfl ?_
    refine r_mem (show mx_up (fl (rmM S) 236 (fun kk => mx_and (S 236 kk) (mx_xor (bpM S kk) (-1))) f) 236 (0 + f) (mx_and (S 236 (0 + f)) (mx_xor (bs (fun kk => tb ((fl (rmM S) 236 (fun kk => mx_and (S 236 kk) (mx_xor (bpM S kk) (-1))) f) 236 (0 + f)) kk ∧ btake ((fl (rmM S) 236 (fun kk => mx_and (S 236 kk) (mx_xor (bpM S kk) (-1))) f) 233 (1 + f)) ((fl (rmM S) 236 (fun kk => mx_and (S 236 kk) (mx_xor (bpM S kk) (-1))) f) 233 (29 + 8 * f + kk))) ((fl (rmM S) 236 (fun kk => mx_and (S 236 kk) (mx_xor (bpM S kk) (-1))) f) 233 (22 + f))) (-1))) = fl (rmM S) 236 (fun kk => mx_and (S 236 kk) (mx_xor (bpM S kk) (-1))) (f + 1) from by have eB : fl (rmM S) 236 (fun kk => mx_and (S 236 kk) (mx_xor (bpM S kk) (-1))) f 236 (0 + f) = S 236 (0 + f) := (fl_hi (by omega)).trans (rmM_o (by omega)); have eC : ∀ j, fl (rmM S) 236 (fun kk => mx_and (S 236 kk) (mx_xor (bpM S kk) (-1))) f 233 j = S 233 j := fun j => (fl_o (by omega)).trans (rmM_o (by omega)); have e0 : (0 : Int) + f = f := Int.zero_add f; have eb : bpM (fl (rmM S) 236 (fun kk => mx_and (S 236 kk) (mx_xor (bpM S kk) (-1))) f) f = bpM S f := bpM_cg eC eB; exact fl_s2 (by omega) e0 (congr (congrArg mx_and (congrArg (S 236) e0)) (congrArg (fun z => mx_xor z (-1)) eb))) ?_
    exact ih11 (f + 1) (show (0 ≤ (f + 1) ∧ (f + 1) ≤ S 233 0) from by omega) (show (S 233 0 - (f + 1)).toNat < (S 233 0 - f).toNat from by omega)
  · refine r_icmp_ge1 (pc' := 45) rfl rfl (by omega) (by omega) ?_
    refine r_iload (pc' := 46) rfl rfl rfl ?_
    refine r_aload (pc' := 47) rfl rfl rfl ?_
    refine q_callE (pc' := 50) (w := some (.inl (sm (fun kk => pop ((fl (rmM S) 236 (fun kk => mx_and (S 236 kk) (mx_xor (bpM S kk) (-1))) f) 236 (0 + kk))) 7))) (S2 := (fl (rmM S) 236 (fun kk => mx_and (S 236 kk) (mx_xor (bpM S kk) (-1))) f)) (st' := [.inl (sm (fun kk => pop ((fl (rmM S) 236 (fun kk => mx_and (S 236 kk) (mx_xor (bpM S kk) (-1))) f) 236 (0 + kk))) 7), .inl (sm (fun kk => pop ((rmM S) 236 (0 + kk))) 7)]) rfl rfl rfl (c_X11_leftInAll  (S := (fl (rmM S) 236 (fun kk => mx_and (S 236 kk) (mx_xor (bpM S kk) (-1))) f)) hB4 ) (by decide) rfl rfl (Nat.le_of_ble_eq_true rfl) (fun _ _ => ⟨_, _, rfl, rfl⟩) rfl rfl ?_
    have b10 : 0 ≤ (sm (fun kk => pop ((fl (rmM S) 236 (fun kk => mx_and (S 236 kk) (mx_xor (bpM S kk) (-1))) f) 236 (0 + kk))) 7) ∧ (sm (fun kk => pop ((fl (rmM S) 236 (fun kk => mx_and (S 236 kk) (mx_xor (bpM S kk) (-1))) f) 236 (0 + kk))) 7) ≤ 63 := lf63
    refine r_isub (pc' := 51) rfl rfl ?_
    refine q_iret rfl rfl rfl ?_
    obtain rfl : S 233 0 = f := by omega
    have ew : w_X11_birds S = (((sm (fun kk => pop ((rmM S) 236 (0 + kk))) 7) - (sm (fun kk => pop ((fl (rmM S) 236 (fun kk => mx_and (S 236 kk) (mx_xor (bpM S kk) (-1))) (S 233 0)) 236 (0 + kk))) 7)), (fl (rmM S) 236 (fun kk => mx_and (S 236 kk) (mx_xor (bpM S kk) (-1))) (S 233 0))) := by unfold w_X11_birds; rfl
    exact ⟨by rw [ew], by rw [ew], hB4⟩
noncomputable def w_X11_plough (S : rS) (f : Int) : Int × rS := if 0 ≤ f ∧ f ≤ S 233 0 - 1 then if (pop (S 236 (0 + f))) = 0 then ((-4), S) else ((pop (S 236 (0 + f))), mx_up (rmM S) 236 (0 + f) 0) else ((-2), S)
theorem c_X11_plough {f : Int} {S : rS} (hB : Bd S) (h_f : -2147483648 ≤ f ∧ f < 2147483648) : CS 3 110 [.inr (.inr 232), .inl f] S (fun r' S' => r' = some (.inl ((w_X11_plough S f).1)) ∧ S' = (w_X11_plough S f).2 ∧ Bd S') := by
  refine RS.beg (ls := [some (.inr (.inr 232)), some (.inl f), none]) rfl rfl rfl rfl rfl ?_
  have n0 : 0 ≤ S 233 0 ∧ S 233 0 ≤ 7 := hB 233 0
  refine r_aload (pc' := 1) rfl rfl rfl ?_
  refine r_iload (pc' := 2) rfl rfl rfl ?_
  have b1 : 0 ≤ S 233 0 ∧ S 233 0 ≤ 7 := hB 233 0
  by_cases h2 : 0 ≤ f ∧ f ≤ S 233 0 - 1
  · skip
    refine q_callE (pc' := 5) (w := some (.inl 1)) (S2 := S) (st' := [.inl 1]) rfl rfl rfl (bi_pos h2 (c_X11_isField (f := f) (S := S) hB (show -2147483648 ≤ f ∧ f < 2147483648 from by omega))) (by decide) rfl rfl (Nat.le_of_ble_eq_true rfl) (fun _ _ => ⟨_, _, rfl, rfl⟩) rfl rfl ?_
    refine r_if_ne1 (pc' := 11) rfl rfl (by decide) (by decide) ?_
    refine r_aload (pc' := 12) rfl rfl rfl ?_
    refine r_getr (pc' := 15) (v := 236) rfl rfl rfl rfl rfl ?_
    refine r_const (pc' := 16) rfl rfl ?_
    refine r_iload (pc' := 17) rfl rfl rfl ?_
    refine r_iadd (pc' := 18) rfl rfl ?_
    refine r_aldv (pc' := 19) (v := (S 236 (0 + f))) 12 rfl rfl rfl (by omega) rfl ?_
    have b3 := bdc_236_0 hB f
    refine q_callE (pc' := 22) (w := some (.inl (pop (S 236 (0 + f))))) (S2 := S) (st' := [.inl (pop (S 236 (0 + f)))]) rfl rfl rfl (c_X11_bits (a := (S 236 (0 + f))) (S := S)  (show 0 ≤ (S 236 (0 + f)) ∧ (S 236 (0 + f)) < 512 from by omega)) (by decide) rfl rfl (Nat.le_of_ble_eq_true rfl) (fun q => absurd rfl q) rfl rfl ?_
    have b4 : 0 ≤ (pop (S 236 (0 + f))) ∧ (pop (S 236 (0 + f))) ≤ 9 := pop_r _
    refine r_istore (pc' := 23) (ls' := [some (.inr (.inr 232)), some (.inl f), some (.inl (pop (S 236 (0 + f))))]) rfl rfl rfl rfl ?_
    refine r_iload (pc' := 24) rfl rfl rfl ?_
    by_cases h5 : (pop (S 236 (0 + f))) = 0
    · refine r_if_ne0 (pc' := 27) rfl rfl (by omega) (by omega) ?_
      refine r_const (pc' := 29) rfl rfl ?_
      refine q_iret rfl rfl rfl ?_
      have ew : w_X11_plough S f = ((-4), S) := by unfold w_X11_plough; rw [if_pos h2, if_pos h5]
      exact ⟨by rw [ew], by rw [ew], hB⟩
    · refine r_if_ne1 (pc' := 30) rfl rfl (by omega) (by omega) ?_
      refine r_aload (pc' := 31) rfl rfl rfl ?_
      refine q_callE (pc' := 34) (w := none) (S2 := rmM S) (st' := []) rfl rfl rfl (c_X11_remember  (S := S) hB ) (by decide) rfl rfl (Nat.le_of_ble_eq_true rfl) (fun _ _ => ⟨_, _, rfl, rfl⟩) rfl rfl ?_
      have hB6 : Bd (rmM S) := Bd_rmM hB
      refine r_aload (pc' := 35) rfl rfl rfl ?_
      refine r_getr (pc' := 38) (v := 236) rfl rfl rfl rfl rfl ?_
      refine r_const (pc' := 39) rfl rfl ?_
      refine r_iload (pc' := 40) rfl rfl rfl ?_
      refine r_iadd (pc' := 41) rfl rfl ?_
      refine r_const (pc' := 42) rfl rfl ?_
      refine r_ast (pc' := 43) 12 rfl rfl rfl (by omega) ?_
      refine r_iload (pc' := 44) rfl rfl rfl ?_
      refine q_iret rfl rfl rfl ?_
      have ew : w_X11_plough S f = ((pop (S 236 (0 + f))), mx_up (rmM S) 236 (0 + f) 0) := by unfold w_X11_plough; rw [if_pos h2, if_neg h5]
      exact ⟨by rw [ew], by rw [ew], (Bd_up hB6 (show _ ≤ 0 from by rw [(bdi_236_0 (show 0 ≤ f ∧ f < 7 from by omega)).1]; omega) (show 0 ≤ _ from by rw [(bdi_236_0 (show 0 ≤ f ∧ f < 7 from by omega)).2]; omega))⟩
  · skip
    refine q_callE (pc' := 5) (w := some (.inl 0)) (S2 := S) (st' := [.inl 0]) rfl rfl rfl (bi_neg h2 (c_X11_isField (f := f) (S := S) hB (show -2147483648 ≤ f ∧ f < 2147483648 from by omega))) (by decide) rfl rfl (Nat.le_of_ble_eq_true rfl) (fun _ _ => ⟨_, _, rfl, rfl⟩) rfl rfl ?_
    refine r_if_ne0 (pc' := 8) rfl rfl (by decide) (by decide) ?_
    refine r_const (pc' := 10) rfl rfl ?_
    refine q_iret rfl rfl rfl ?_
    have ew : w_X11_plough S f = ((-2), S) := by unfold w_X11_plough; rw [if_neg h2]
    exact ⟨by rw [ew], by rw [ew], hB⟩
noncomputable def w_X11_day (S : rS) : Int × rS := if (S 236 8) = 999 then ((-5), S) else ((pop (S 236 9)), mx_up (mx_up (mx_up (mx_up (rmM S) 236 7 0) 236 9 0) 236 10 0) 236 8 ((S 236 8) + 1))
theorem c_X11_day {S : rS} (hB : Bd S) : CS 3 73 [.inr (.inr 232)] S (fun r' S' => r' = some (.inl ((w_X11_day S).1)) ∧ S' = (w_X11_day S).2 ∧ Bd S') := by
  refine RS.beg (ls := [some (.inr (.inr 232)), none]) rfl rfl rfl rfl rfl ?_
  have s7 : 0 ≤ S 236 7 ∧ S 236 7 ≤ 99 := hB 236 7
  have s8 : 0 ≤ S 236 8 ∧ S 236 8 ≤ 999 := hB 236 8
  have s9 : 0 ≤ S 236 9 ∧ S 236 9 ≤ 127 := hB 236 9
  have s10 : 0 ≤ S 236 10 ∧ S 236 10 ≤ 9 := hB 236 10
  have s11 : 0 ≤ S 236 11 ∧ S 236 11 ≤ 6 := hB 236 11
  have dk : 0 ≤ S 233 186 ∧ S 233 186 ≤ 99 := hB 233 186
  refine r_aload (pc' := 1) rfl rfl rfl ?_
  refine r_getr (pc' := 4) (v := 236) rfl rfl rfl rfl rfl ?_
  refine r_const (pc' := 6) rfl rfl ?_
  refine r_aldv (pc' := 7) (v := (S 236 8)) 12 rfl rfl rfl (by omega) rfl ?_
  have b1 : 0 ≤ S 236 8 ∧ S 236 8 ≤ 999 := hB 236 8
  refine r_const (pc' := 10) rfl rfl ?_
  by_cases h2 : (S 236 8) = 999
  · refine r_icmp_ne0 (pc' := 13) rfl rfl (by omega) (by omega) ?_
    refine r_const (pc' := 15) rfl rfl ?_
    refine q_iret rfl rfl rfl ?_
    have ew : w_X11_day S = ((-5), S) := by unfold w_X11_day; rw [if_pos h2]
    exact ⟨by rw [ew], by rw [ew], hB⟩
  · refine r_icmp_ne1 (pc' := 16) rfl rfl (by omega) (by omega) ?_
    refine r_aload (pc' := 17) rfl rfl rfl ?_
    refine q_callE (pc' := 20) (w := none) (S2 := rmM S) (st' := []) rfl rfl rfl (c_X11_remember  (S := S) hB ) (by decide) rfl rfl (Nat.le_of_ble_eq_true rfl) (fun _ _ => ⟨_, _, rfl, rfl⟩) rfl rfl ?_
    have hB3 : Bd (rmM S) := Bd_rmM hB
    refine r_aload (pc' := 21) rfl rfl rfl ?_
    refine r_getr (pc' := 24) (v := 236) rfl rfl rfl rfl rfl ?_
    refine r_const (pc' := 26) rfl rfl ?_
    refine r_aldv (pc' := 27) (v := (S 236 9)) 12 rfl rfl rfl (by omega) (rmM_o (by omega)) ?_
    have b4 : 0 ≤ S 236 9 ∧ S 236 9 ≤ 127 := hB 236 9
    refine q_callE (pc' := 30) (w := some (.inl (pop (S 236 9)))) (S2 := (rmM S)) (st' := [.inl (pop (S 236 9))]) rfl rfl rfl (c_X11_bits (a := (S 236 9)) (S := (rmM S))  (show 0 ≤ (S 236 9) ∧ (S 236 9) < 512 from by omega)) (by decide) rfl rfl (Nat.le_of_ble_eq_true rfl) (fun q => absurd rfl q) rfl rfl ?_
    have b5 : 0 ≤ (pop (S 236 9)) ∧ (pop (S 236 9)) ≤ 9 := pop_r _
    refine r_istore (pc' := 31) (ls' := [some (.inr (.inr 232)), some (.inl (pop (S 236 9)))]) rfl rfl rfl rfl ?_
    refine r_aload (pc' := 32) rfl rfl rfl ?_
    refine r_getr (pc' := 35) (v := 236) rfl rfl rfl rfl rfl ?_
    refine r_const (pc' := 37) rfl rfl ?_
    refine r_const (pc' := 38) rfl rfl ?_
    refine r_ast (pc' := 39) 12 rfl rfl rfl (by omega) ?_
    refine r_aload (pc' := 40) rfl rfl rfl ?_
    refine r_getr (pc' := 43) (v := 236) rfl rfl rfl rfl rfl ?_
    refine r_const (pc' := 45) rfl rfl ?_
    refine r_const (pc' := 46) rfl rfl ?_
    refine r_ast (pc' := 47) 12 rfl rfl rfl (by omega) ?_
    refine r_aload (pc' := 48) rfl rfl rfl ?_
    refine r_getr (pc' := 51) (v := 236) rfl rfl rfl rfl rfl ?_
    refine r_const (pc' := 53) rfl rfl ?_
    refine r_const (pc' := 54) rfl rfl ?_
    refine r_ast (pc' := 55) 12 rfl rfl rfl (by omega) ?_
    refine r_aload (pc' := 56) rfl rfl rfl ?_
    refine r_getr (pc' := 59) (v := 236) rfl rfl rfl rfl rfl ?_
    refine r_const (pc' := 61) rfl rfl ?_
    refine r_dup2 (pc' := 62) rfl rfl ?_
    refine r_aldv (pc' := 63) (v := (S 236 8)) 12 rfl rfl rfl (by omega) ((up_ne (by omega)).trans ((up_ne (by omega)).trans ((up_ne (by omega)).trans (rmM_o (by omega))))) ?_
    refine r_const (pc' := 64) rfl rfl ?_
    refine r_iadd (pc' := 65) rfl rfl ?_
    refine r_ast (pc' := 66) 12 rfl rfl rfl (by omega) ?_
    refine r_iload (pc' := 67) rfl rfl rfl ?_
    refine q_iret rfl rfl rfl ?_
    have ew : w_X11_day S = ((pop (S 236 9)), mx_up (mx_up (mx_up (mx_up (rmM S) 236 7 0) 236 9 0) 236 10 0) 236 8 ((S 236 8) + 1)) := by unfold w_X11_day; rw [if_neg h2]
    exact ⟨by rw [ew], by rw [ew], (Bd_up (Bd_up (Bd_up (Bd_up hB3 (show (0 : Int) ≤ 0 from by omega) (show 0 ≤ (99 : Int) from by omega)) (show (0 : Int) ≤ 0 from by omega) (show 0 ≤ (127 : Int) from by omega)) (show (0 : Int) ≤ 0 from by omega) (show 0 ≤ (9 : Int) from by omega)) (show (0 : Int) ≤ ((S 236 8) + 1) from by omega) (show ((S 236 8) + 1) ≤ (999 : Int) from by omega))⟩
noncomputable def w_X11_undo (S : rS) : Int × rS := if (S 232 5) = 0 then ((-4), S) else (((S 232 5) - 1), (mx_cp (mx_up S 232 5 ((S 232 5) - 1)) 237 (12 * ((S 232 5) - 1)) 236 0 12))
theorem c_X11_undo {S : rS} (hB : Bd S) : CS 2 127 [.inr (.inr 232)] S (fun r' S' => r' = some (.inl ((w_X11_undo S).1)) ∧ S' = (w_X11_undo S).2 ∧ Bd S') := by
  refine RS.beg (ls := [some (.inr (.inr 232))]) rfl rfl rfl rfl rfl ?_
  have u5 : 0 ≤ S 232 5 ∧ S 232 5 ≤ 8 := hB 232 5
  refine r_aload (pc' := 1) rfl rfl rfl ?_
  refine r_getv (pc' := 4) (v := (S 232 5)) rfl rfl (Or.inl rfl) rfl rfl ?_
  have b1 : 0 ≤ S 232 5 ∧ S 232 5 ≤ 8 := hB 232 5
  by_cases h2 : (S 232 5) = 0
  · refine r_if_ne0 (pc' := 7) rfl rfl (by omega) (by omega) ?_
    refine r_const (pc' := 9) rfl rfl ?_
    refine q_iret rfl rfl rfl ?_
    have ew : w_X11_undo S = ((-4), S) := by unfold w_X11_undo; rw [if_pos h2]
    exact ⟨by rw [ew], by rw [ew], hB⟩
  · refine r_if_ne1 (pc' := 10) rfl rfl (by omega) (by omega) ?_
    refine r_aload (pc' := 11) rfl rfl rfl ?_
    refine r_dupr (pc' := 12) rfl rfl ?_
    refine r_getv (pc' := 15) (v := (S 232 5)) rfl rfl (Or.inl rfl) rfl rfl ?_
    refine r_const (pc' := 16) rfl rfl ?_
    refine r_isub (pc' := 17) rfl rfl ?_
    refine r_put (pc' := 20) rfl rfl rfl rfl ?_
    refine r_aload (pc' := 21) rfl rfl rfl ?_
    refine r_getr (pc' := 24) (v := 237) rfl rfl rfl rfl rfl ?_
    refine r_const (pc' := 26) rfl rfl ?_
    refine r_aload (pc' := 27) rfl rfl rfl ?_
    refine r_getv (pc' := 30) (v := ((S 232 5) - 1)) rfl rfl (Or.inl rfl) rfl rfl ?_
    refine r_imul (pc' := 31) rfl rfl ?_
    refine r_aload (pc' := 32) rfl rfl rfl ?_
    refine r_getr (pc' := 35) (v := 236) rfl rfl rfl rfl rfl ?_
    refine r_const (pc' := 36) rfl rfl ?_
    refine r_const (pc' := 38) rfl rfl ?_
    refine q_callE (pc' := 41) (w := none) (S2 := mx_cp (mx_up S 232 5 ((S 232 5) - 1)) 237 (12 * ((S 232 5) - 1)) 236 0 12) (st' := []) rfl rfl rfl (c_X11_copies_pn (u := ((S 232 5) - 1)) (S := mx_up S 232 5 ((S 232 5) - 1)) (Bd_up hB (show (0 : Int) ≤ ((S 232 5) - 1) from by omega) (show ((S 232 5) - 1) ≤ (8 : Int) from by omega)) (show 0 ≤ ((S 232 5) - 1) ∧ ((S 232 5) - 1) < 8 from by omega)) (by decide) rfl rfl (Nat.le_of_ble_eq_true rfl) (fun q => absurd rfl q) rfl rfl ?_
    have hB3 : Bd (mx_cp (mx_up S 232 5 ((S 232 5) - 1)) 237 (12 * ((S 232 5) - 1)) 236 0 12) := Bd_pn (Bd_up hB (show (0 : Int) ≤ ((S 232 5) - 1) from by omega) (show ((S 232 5) - 1) ≤ (8 : Int) from by omega))
    refine r_aload (pc' := 42) rfl rfl rfl ?_
    refine r_getv (pc' := 45) (v := ((S 232 5) - 1)) rfl rfl (Or.inl rfl) rfl (cp_o (by omega)) ?_
    refine q_iret rfl rfl rfl ?_
    have ew : w_X11_undo S = (((S 232 5) - 1), (mx_cp (mx_up S 232 5 ((S 232 5) - 1)) 237 (12 * ((S 232 5) - 1)) 236 0 12)) := by unfold w_X11_undo; rw [if_neg h2]
    exact ⟨by rw [ew], by rw [ew], hB3⟩
noncomputable def w_X11_keep (S : rS) (k : Int) : Int × rS := if 0 ≤ k ∧ k ≤ 1 then ((S 236 8), mx_up (mx_cp S 236 0 238 (12 * k) 12) 239 k 1) else ((-2), S)
theorem c_X11_keep {k : Int} {S : rS} (hB : Bd S) (h_k : -2147483648 ≤ k ∧ k < 2147483648) : CS 3 93 [.inr (.inr 232), .inl k] S (fun r' S' => r' = some (.inl ((w_X11_keep S k).1)) ∧ S' = (w_X11_keep S k).2 ∧ Bd S') := by
  refine RS.beg (ls := [some (.inr (.inr 232)), some (.inl k)]) rfl rfl rfl rfl rfl ?_
  refine r_iload (pc' := 1) rfl rfl rfl ?_
  by_cases h1 : 0 ≤ k ∧ k ≤ 1
  · skip
    refine q_callE (pc' := 4) (w := some (.inl 1)) (S2 := S) (st' := [.inl 1]) rfl rfl rfl (bi_pos h1 (c_X11_isTwo (k := k) (S := S)  (show -2147483648 ≤ k ∧ k < 2147483648 from by omega))) (by decide) rfl rfl (Nat.le_of_ble_eq_true rfl) (fun q => absurd rfl q) rfl rfl ?_
    refine r_if_ne1 (pc' := 10) rfl rfl (by decide) (by decide) ?_
    refine r_aload (pc' := 11) rfl rfl rfl ?_
    refine r_getr (pc' := 14) (v := 236) rfl rfl rfl rfl rfl ?_
    refine r_const (pc' := 15) rfl rfl ?_
    refine r_aload (pc' := 16) rfl rfl rfl ?_
    refine r_getr (pc' := 19) (v := 238) rfl rfl rfl rfl rfl ?_
    refine r_const (pc' := 21) rfl rfl ?_
    refine r_iload (pc' := 22) rfl rfl rfl ?_
    refine r_imul (pc' := 23) rfl rfl ?_
    refine r_const (pc' := 25) rfl rfl ?_
    refine q_callE (pc' := 28) (w := none) (S2 := mx_cp S 236 0 238 (12 * k) 12) (st' := []) rfl rfl rfl (c_X11_copies_nk (u := k) (S := S) hB (show 0 ≤ k ∧ k < 2 from by omega)) (by decide) rfl rfl (Nat.le_of_ble_eq_true rfl) (fun q => absurd rfl q) rfl rfl ?_
    have hB2 : Bd (mx_cp S 236 0 238 (12 * k) 12) := Bd_nk hB
    refine r_aload (pc' := 29) rfl rfl rfl ?_
    refine r_getr (pc' := 32) (v := 239) rfl rfl rfl rfl rfl ?_
    refine r_iload (pc' := 33) rfl rfl rfl ?_
    refine r_const (pc' := 34) rfl rfl ?_
    refine r_bast (pc' := 35) 2 rfl rfl rfl (by omega) (by omega) ?_
    refine r_aload (pc' := 36) rfl rfl rfl ?_
    refine r_getr (pc' := 39) (v := 236) rfl rfl rfl rfl rfl ?_
    refine r_const (pc' := 41) rfl rfl ?_
    refine r_aldv (pc' := 42) (v := (S 236 8)) 12 rfl rfl rfl (by omega) ((up_ne (by omega)).trans (cp_o (by omega))) ?_
    have b3 : 0 ≤ S 236 8 ∧ S 236 8 ≤ 999 := hB 236 8
    refine q_iret rfl rfl rfl ?_
    have ew : w_X11_keep S k = ((S 236 8), mx_up (mx_cp S 236 0 238 (12 * k) 12) 239 k 1) := by unfold w_X11_keep; rw [if_pos h1]
    exact ⟨by rw [ew], by rw [ew], (Bd_up hB2 (show (0 : Int) ≤ 1 from by omega) (show 1 ≤ (1 : Int) from by omega))⟩
  · skip
    refine q_callE (pc' := 4) (w := some (.inl 0)) (S2 := S) (st' := [.inl 0]) rfl rfl rfl (bi_neg h1 (c_X11_isTwo (k := k) (S := S)  (show -2147483648 ≤ k ∧ k < 2147483648 from by omega))) (by decide) rfl rfl (Nat.le_of_ble_eq_true rfl) (fun q => absurd rfl q) rfl rfl ?_
    refine r_if_ne0 (pc' := 7) rfl rfl (by decide) (by decide) ?_
    refine r_const (pc' := 9) rfl rfl ?_
    refine q_iret rfl rfl rfl ?_
    have ew : w_X11_keep S k = ((-2), S) := by unfold w_X11_keep; rw [if_neg h1]
    exact ⟨by rw [ew], by rw [ew], hB⟩
noncomputable def w_X11_back (S : rS) (k : Int) : Int × rS := if 0 ≤ k ∧ k ≤ 1 then if (S 239 k) = 0 then ((-4), S) else (((mx_cp S 238 (12 * k) 236 0 12) 236 8), mx_up (mx_cp S 238 (12 * k) 236 0 12) 232 5 0) else ((-2), S)
theorem c_X11_back {k : Int} {S : rS} (hB : Bd S) (h_k : -2147483648 ≤ k ∧ k < 2147483648) : CS 3 58 [.inr (.inr 232), .inl k] S (fun r' S' => r' = some (.inl ((w_X11_back S k).1)) ∧ S' = (w_X11_back S k).2 ∧ Bd S') := by
  refine RS.beg (ls := [some (.inr (.inr 232)), some (.inl k)]) rfl rfl rfl rfl rfl ?_
  refine r_iload (pc' := 1) rfl rfl rfl ?_
  by_cases h1 : 0 ≤ k ∧ k ≤ 1
  · skip
    refine q_callE (pc' := 4) (w := some (.inl 1)) (S2 := S) (st' := [.inl 1]) rfl rfl rfl (bi_pos h1 (c_X11_isTwo (k := k) (S := S)  (show -2147483648 ≤ k ∧ k < 2147483648 from by omega))) (by decide) rfl rfl (Nat.le_of_ble_eq_true rfl) (fun q => absurd rfl q) rfl rfl ?_
    refine r_if_ne1 (pc' := 10) rfl rfl (by decide) (by decide) ?_
    refine r_aload (pc' := 11) rfl rfl rfl ?_
    refine r_getr (pc' := 14) (v := 239) rfl rfl rfl rfl rfl ?_
    refine r_iload (pc' := 15) rfl rfl rfl ?_
    refine r_baldv (pc' := 16) (v := (S 239 k)) 2 rfl rfl rfl (by omega) rfl ?_
    have b2 : 0 ≤ S 239 k ∧ S 239 k ≤ 1 := hB 239 k
    by_cases h3 : (S 239 k) = 0
    · refine r_if_ne0 (pc' := 19) rfl rfl (by omega) (by omega) ?_
      refine r_const (pc' := 21) rfl rfl ?_
      refine q_iret rfl rfl rfl ?_
      have ew : w_X11_back S k = ((-4), S) := by unfold w_X11_back; rw [if_pos h1, if_pos h3]
      exact ⟨by rw [ew], by rw [ew], hB⟩
    · refine r_if_ne1 (pc' := 22) rfl rfl (by omega) (by omega) ?_
      refine r_aload (pc' := 23) rfl rfl rfl ?_
      refine r_getr (pc' := 26) (v := 238) rfl rfl rfl rfl rfl ?_
      refine r_const (pc' := 28) rfl rfl ?_
      refine r_iload (pc' := 29) rfl rfl rfl ?_
      refine r_imul (pc' := 30) rfl rfl ?_
      refine r_aload (pc' := 31) rfl rfl rfl ?_
      refine r_getr (pc' := 34) (v := 236) rfl rfl rfl rfl rfl ?_
      refine r_const (pc' := 35) rfl rfl ?_
      refine r_const (pc' := 37) rfl rfl ?_
      refine q_callE (pc' := 40) (w := none) (S2 := mx_cp S 238 (12 * k) 236 0 12) (st' := []) rfl rfl rfl (c_X11_copies_kn (u := k) (S := S) hB (show 0 ≤ k ∧ k < 2 from by omega)) (by decide) rfl rfl (Nat.le_of_ble_eq_true rfl) (fun q => absurd rfl q) rfl rfl ?_
      have hB4 : Bd (mx_cp S 238 (12 * k) 236 0 12) := Bd_kn hB
      refine r_aload (pc' := 41) rfl rfl rfl ?_
      refine r_const (pc' := 42) rfl rfl ?_
      refine r_put (pc' := 45) rfl rfl rfl rfl ?_
      refine r_aload (pc' := 46) rfl rfl rfl ?_
      refine r_getr (pc' := 49) (v := 236) rfl rfl rfl rfl rfl ?_
      refine r_const (pc' := 51) rfl rfl ?_
      refine r_aldv (pc' := 52) (v := ((mx_cp S 238 (12 * k) 236 0 12) 236 8)) 12 rfl rfl rfl (by omega) rfl ?_
      refine q_iret rfl rfl rfl ?_
      have ew : w_X11_back S k = (((mx_cp S 238 (12 * k) 236 0 12) 236 8), mx_up (mx_cp S 238 (12 * k) 236 0 12) 232 5 0) := by unfold w_X11_back; rw [if_pos h1, if_neg h3]
      exact ⟨by rw [ew], by rw [ew], (Bd_up hB4 (show (0 : Int) ≤ 0 from by omega) (show 0 ≤ (8 : Int) from by omega))⟩
  · skip
    refine q_callE (pc' := 4) (w := some (.inl 0)) (S2 := S) (st' := [.inl 0]) rfl rfl rfl (bi_neg h1 (c_X11_isTwo (k := k) (S := S)  (show -2147483648 ≤ k ∧ k < 2147483648 from by omega))) (by decide) rfl rfl (Nat.le_of_ble_eq_true rfl) (fun q => absurd rfl q) rfl rfl ?_
    refine r_if_ne0 (pc' := 7) rfl rfl (by decide) (by decide) ?_
    refine r_const (pc' := 9) rfl rfl ?_
    refine q_iret rfl rfl rfl ?_
    have ew : w_X11_back S k = ((-2), S) := by unfold w_X11_back; rw [if_neg h1]
    exact ⟨by rw [ew], by rw [ew], hB⟩
noncomputable def w_X11_seen (S : rS) (f : Int) (n : Int) (m : Int) : Int × rS := if 0 ≤ f ∧ f ≤ S 233 0 - 1 then if (0 : Int) ≤ n ∧ n ≤ (8 : Int) then if (0 : Int) ≤ m ∧ m ≤ (60 : Int) then if (S 232 11) = 6 then ((-5), S) else (((S 232 11) + 1), mx_up (mx_up (mx_up (mx_up S 241 (3 * (S 232 11)) f) 241 ((3 * (S 232 11)) + 1) n) 241 ((3 * (S 232 11)) + 2) m) 232 11 ((S 232 11) + 1)) else ((-3), S) else ((-3), S) else ((-2), S)
theorem c_X11_seen {f : Int} {n : Int} {m : Int} {S : rS} (hB : Bd S) (h_f : -2147483648 ≤ f ∧ f < 2147483648) (h_n : -2147483648 ≤ n ∧ n < 2147483648) (h_m : -2147483648 ≤ m ∧ m < 2147483648) : CS 3 122 [.inr (.inr 232), .inl f, .inl n, .inl m] S (fun r' S' => r' = some (.inl ((w_X11_seen S f n m).1)) ∧ S' = (w_X11_seen S f n m).2 ∧ Bd S') := by
  refine RS.beg (ls := [some (.inr (.inr 232)), some (.inl f), some (.inl n), some (.inl m)]) rfl rfl rfl rfl rfl ?_
  have n0 : 0 ≤ S 233 0 ∧ S 233 0 ≤ 7 := hB 233 0
  have z11 : 0 ≤ S 232 11 ∧ S 232 11 ≤ 6 := hB 232 11
  refine r_aload (pc' := 1) rfl rfl rfl ?_
  refine r_iload (pc' := 2) rfl rfl rfl ?_
  have b1 : 0 ≤ S 233 0 ∧ S 233 0 ≤ 7 := hB 233 0
  by_cases h2 : 0 ≤ f ∧ f ≤ S 233 0 - 1
  · skip
    refine q_callE (pc' := 5) (w := some (.inl 1)) (S2 := S) (st' := [.inl 1]) rfl rfl rfl (bi_pos h2 (c_X11_isField (f := f) (S := S) hB (show -2147483648 ≤ f ∧ f < 2147483648 from by omega))) (by decide) rfl rfl (Nat.le_of_ble_eq_true rfl) (fun _ _ => ⟨_, _, rfl, rfl⟩) rfl rfl ?_
    refine r_if_ne1 (pc' := 11) rfl rfl (by decide) (by decide) ?_
    refine r_iload (pc' := 12) rfl rfl rfl ?_
    refine r_i2l (pc' := 13) rfl rfl (by omega) ?_
    refine r_lcon (pc' := 14) rfl rfl ?_
    refine r_lcon (pc' := 17) rfl rfl ?_
    by_cases h3 : (0 : Int) ≤ n ∧ n ≤ (8 : Int)
    · skip
      refine q_callE (pc' := 20) (w := some (.inl 1)) (S2 := S) (st' := [.inl 1]) rfl rfl rfl (bi_pos h3 (c_X11_in (a := n) (b := 0) (c := 8) (S := S)  (show -2147483648 ≤ n ∧ n < 2147483648 from by omega) (show -2147483648 ≤ (0 : Int) ∧ (0 : Int) < 2147483648 from by omega) (show -2147483648 ≤ (8 : Int) ∧ (8 : Int) < 2147483648 from by omega))) (by decide) rfl rfl (Nat.le_of_ble_eq_true rfl) (fun q => absurd rfl q) rfl rfl ?_
      refine r_if_eq0 (pc' := 23) rfl rfl (by decide) (by decide) ?_
      refine r_iload (pc' := 24) rfl rfl rfl ?_
      refine r_i2l (pc' := 25) rfl rfl (by omega) ?_
      refine r_lcon (pc' := 26) rfl rfl ?_
      refine r_lcon (pc' := 29) rfl rfl ?_
      by_cases h4 : (0 : Int) ≤ m ∧ m ≤ (60 : Int)
      · skip
        refine q_callE (pc' := 32) (w := some (.inl 1)) (S2 := S) (st' := [.inl 1]) rfl rfl rfl (bi_pos h4 (c_X11_in (a := m) (b := 0) (c := 60) (S := S)  (show -2147483648 ≤ m ∧ m < 2147483648 from by omega) (show -2147483648 ≤ (0 : Int) ∧ (0 : Int) < 2147483648 from by omega) (show -2147483648 ≤ (60 : Int) ∧ (60 : Int) < 2147483648 from by omega))) (by decide) rfl rfl (Nat.le_of_ble_eq_true rfl) (fun q => absurd rfl q) rfl rfl ?_
        refine r_if_ne1 (pc' := 38) rfl rfl (by decide) (by decide) ?_
        refine r_aload (pc' := 39) rfl rfl rfl ?_
        refine r_getv (pc' := 42) (v := (S 232 11)) rfl rfl (Or.inl rfl) rfl rfl ?_
        have b5 : 0 ≤ S 232 11 ∧ S 232 11 ≤ 6 := hB 232 11
        refine r_const (pc' := 44) rfl rfl ?_
        by_cases h6 : (S 232 11) = 6
        · refine r_icmp_ne0 (pc' := 47) rfl rfl (by omega) (by omega) ?_
          refine r_const (pc' := 49) rfl rfl ?_
          refine q_iret rfl rfl rfl ?_
          have ew : w_X11_seen S f n m = ((-5), S) := by unfold w_X11_seen; rw [if_pos h2, if_pos h3, if_pos h4, if_pos h6]
          exact ⟨by rw [ew], by rw [ew], hB⟩
        · refine r_icmp_ne1 (pc' := 50) rfl rfl (by omega) (by omega) ?_
          refine r_aload (pc' := 51) rfl rfl rfl ?_
          refine r_getr (pc' := 54) (v := 241) rfl rfl rfl rfl rfl ?_
          refine r_const (pc' := 55) rfl rfl ?_
          refine r_aload (pc' := 56) rfl rfl rfl ?_
          refine r_getv (pc' := 59) (v := (S 232 11)) rfl rfl (Or.inl rfl) rfl rfl ?_
          refine r_imul (pc' := 60) rfl rfl ?_
          refine r_iload (pc' := 61) rfl rfl rfl ?_
          refine r_ast (pc' := 62) 18 rfl rfl rfl (by omega) ?_
          refine r_aload (pc' := 63) rfl rfl rfl ?_
          refine r_getr (pc' := 66) (v := 241) rfl rfl rfl rfl rfl ?_
          refine r_const (pc' := 67) rfl rfl ?_
          refine r_aload (pc' := 68) rfl rfl rfl ?_
          refine r_getv (pc' := 71) (v := (S 232 11)) rfl rfl (Or.inl rfl) rfl rfl ?_
          refine r_imul (pc' := 72) rfl rfl ?_
          refine r_const (pc' := 73) rfl rfl ?_
          refine r_iadd (pc' := 74) rfl rfl ?_
          refine r_iload (pc' := 75) rfl rfl rfl ?_
          refine r_ast (pc' := 76) 18 rfl rfl rfl (by omega) ?_
          refine r_aload (pc' := 77) rfl rfl rfl ?_
          refine r_getr (pc' := 80) (v := 241) rfl rfl rfl rfl rfl ?_
          refine r_const (pc' := 81) rfl rfl ?_
          refine r_aload (pc' := 82) rfl rfl rfl ?_
          refine r_getv (pc' := 85) (v := (S 232 11)) rfl rfl (Or.inl rfl) rfl rfl ?_
          refine r_imul (pc' := 86) rfl rfl ?_
          refine r_const (pc' := 87) rfl rfl ?_
          refine r_iadd (pc' := 88) rfl rfl ?_
          refine r_iload (pc' := 89) rfl rfl rfl ?_
          refine r_ast (pc' := 90) 18 rfl rfl rfl (by omega) ?_
          refine r_aload (pc' := 91) rfl rfl rfl ?_
          refine r_dupr (pc' := 92) rfl rfl ?_
          refine r_getv (pc' := 95) (v := (S 232 11)) rfl rfl (Or.inl rfl) rfl rfl ?_
          refine r_const (pc' := 96) rfl rfl ?_
          refine r_iadd (pc' := 97) rfl rfl ?_
          refine r_put (pc' := 100) rfl rfl rfl rfl ?_
          refine r_aload (pc' := 101) rfl rfl rfl ?_
          refine r_getv (pc' := 104) (v := ((S 232 11) + 1)) rfl rfl (Or.inl rfl) rfl rfl ?_
          refine q_iret rfl rfl rfl ?_
          have ew : w_X11_seen S f n m = (((S 232 11) + 1), mx_up (mx_up (mx_up (mx_up S 241 (3 * (S 232 11)) f) 241 ((3 * (S 232 11)) + 1) n) 241 ((3 * (S 232 11)) + 2) m) 232 11 ((S 232 11) + 1)) := by unfold w_X11_seen; rw [if_pos h2, if_pos h3, if_pos h4, if_neg h6]
          exact ⟨by rw [ew], by rw [ew], (Bd_up (Bd_up (Bd_up (Bd_up hB (show (0 : Int) ≤ f from by omega) (show f ≤ (60 : Int) from by omega)) (show (0 : Int) ≤ n from by omega) (show n ≤ (60 : Int) from by omega)) (show (0 : Int) ≤ m from by omega) (show m ≤ (60 : Int) from by omega)) (show (0 : Int) ≤ ((S 232 11) + 1) from by omega) (show ((S 232 11) + 1) ≤ (6 : Int) from by omega))⟩
      · skip
        refine q_callE (pc' := 32) (w := some (.inl 0)) (S2 := S) (st' := [.inl 0]) rfl rfl rfl (bi_neg h4 (c_X11_in (a := m) (b := 0) (c := 60) (S := S)  (show -2147483648 ≤ m ∧ m < 2147483648 from by omega) (show -2147483648 ≤ (0 : Int) ∧ (0 : Int) < 2147483648 from by omega) (show -2147483648 ≤ (60 : Int) ∧ (60 : Int) < 2147483648 from by omega))) (by decide) rfl rfl (Nat.le_of_ble_eq_true rfl) (fun q => absurd rfl q) rfl rfl ?_
        refine r_if_ne0 (pc' := 35) rfl rfl (by decide) (by decide) ?_
        refine r_const (pc' := 37) rfl rfl ?_
        refine q_iret rfl rfl rfl ?_
        have ew : w_X11_seen S f n m = ((-3), S) := by unfold w_X11_seen; rw [if_pos h2, if_pos h3, if_neg h4]
        exact ⟨by rw [ew], by rw [ew], hB⟩
    · skip
      refine q_callE (pc' := 20) (w := some (.inl 0)) (S2 := S) (st' := [.inl 0]) rfl rfl rfl (bi_neg h3 (c_X11_in (a := n) (b := 0) (c := 8) (S := S)  (show -2147483648 ≤ n ∧ n < 2147483648 from by omega) (show -2147483648 ≤ (0 : Int) ∧ (0 : Int) < 2147483648 from by omega) (show -2147483648 ≤ (8 : Int) ∧ (8 : Int) < 2147483648 from by omega))) (by decide) rfl rfl (Nat.le_of_ble_eq_true rfl) (fun q => absurd rfl q) rfl rfl ?_
      refine r_if_eq1 (pc' := 35) rfl rfl (by decide) (by decide) ?_
      refine r_const (pc' := 37) rfl rfl ?_
      refine q_iret rfl rfl rfl ?_
      have ew : w_X11_seen S f n m = ((-3), S) := by unfold w_X11_seen; rw [if_pos h2, if_neg h3]
      exact ⟨by rw [ew], by rw [ew], hB⟩
  · skip
    refine q_callE (pc' := 5) (w := some (.inl 0)) (S2 := S) (st' := [.inl 0]) rfl rfl rfl (bi_neg h2 (c_X11_isField (f := f) (S := S) hB (show -2147483648 ≤ f ∧ f < 2147483648 from by omega))) (by decide) rfl rfl (Nat.le_of_ble_eq_true rfl) (fun _ _ => ⟨_, _, rfl, rfl⟩) rfl rfl ?_
    refine r_if_ne0 (pc' := 8) rfl rfl (by decide) (by decide) ?_
    refine r_const (pc' := 10) rfl rfl ?_
    refine q_iret rfl rfl rfl ?_
    have ew : w_X11_seen S f n m = ((-2), S) := by unfold w_X11_seen; rw [if_neg h2]
    exact ⟨by rw [ew], by rw [ew], hB⟩
noncomputable def w_X11_forget (S : rS) : Int × rS := ((S 232 11), mx_up S 232 11 0)
theorem c_X11_forget {S : rS} (hB : Bd S) : CS 1 81 [.inr (.inr 232)] S (fun r' S' => r' = some (.inl ((w_X11_forget S).1)) ∧ S' = (w_X11_forget S).2 ∧ Bd S') := by
  refine RS.beg (ls := [some (.inr (.inr 232)), none]) rfl rfl rfl rfl rfl ?_
  refine r_aload (pc' := 1) rfl rfl rfl ?_
  refine r_getv (pc' := 4) (v := (S 232 11)) rfl rfl (Or.inl rfl) rfl rfl ?_
  have b1 : 0 ≤ S 232 11 ∧ S 232 11 ≤ 6 := hB 232 11
  refine r_istore (pc' := 5) (ls' := [some (.inr (.inr 232)), some (.inl (S 232 11))]) rfl rfl rfl rfl ?_
  refine r_aload (pc' := 6) rfl rfl rfl ?_
  refine r_const (pc' := 7) rfl rfl ?_
  refine r_put (pc' := 10) rfl rfl rfl rfl ?_
  refine r_iload (pc' := 11) rfl rfl rfl ?_
  refine q_iret rfl rfl rfl ?_
  have ew : w_X11_forget S = ((S 232 11), mx_up S 232 11 0) := by unfold w_X11_forget; rfl
  exact ⟨by rw [ew], by rw [ew], (Bd_up hB (show (0 : Int) ≤ 0 from by omega) (show 0 ≤ (6 : Int) from by omega))⟩
theorem c_X11_cut {l : Int} {v : Int} {S : rS} (h_l : -2147483648 ≤ l ∧ l < 2147483648) (h_v : -2147483648 ≤ v ∧ v < 2147483648) : CS 1 72 [.inl l, .inl v] S (fun r' S' => r' = some (.inl (cutl l v)) ∧ S' = S) := by
  refine RS.beg (ls := [some (.inl l), some (.inl v)]) rfl rfl rfl rfl rfl ?_
  refine r_iload (pc' := 1) rfl rfl rfl ?_
  by_cases h1 : l = 0
  · refine r_if_ne0 (pc' := 4) rfl rfl (by omega) (by omega) ?_
    refine r_iload (pc' := 5) rfl rfl rfl ?_
    refine r_i2b (pc' := 6) rfl rfl ?_
    have b2 := mx_i2b_r v
    refine r_goto (pc' := 20) rfl rfl ?_
    refine q_iret rfl rfl rfl ?_
    exact ⟨by unfold cutl; rw [if_pos h1], rfl⟩
  · refine r_if_ne1 (pc' := 9) rfl rfl (by omega) (by omega) ?_
    refine r_iload (pc' := 10) rfl rfl rfl ?_
    refine r_const (pc' := 11) rfl rfl ?_
    by_cases h3 : l = 1
    · refine r_icmp_ne0 (pc' := 14) rfl rfl (by omega) (by omega) ?_
      refine r_iload (pc' := 15) rfl rfl rfl ?_
      refine r_i2s (pc' := 16) rfl rfl ?_
      have b4 := mx_i2s_r v
      refine r_goto (pc' := 20) rfl rfl ?_
      refine q_iret rfl rfl rfl ?_
      exact ⟨by unfold cutl; rw [if_neg h1, if_pos h3], rfl⟩
    · refine r_icmp_ne1 (pc' := 19) rfl rfl (by omega) (by omega) ?_
      refine r_iload (pc' := 20) rfl rfl rfl ?_
      refine q_iret rfl rfl rfl ?_
      exact ⟨by unfold cutl; rw [if_neg h1, if_neg h3], rfl⟩
noncomputable def v_X11_found (S : rS) (s : Int) (l : Int) : Int := if (S 243 s) < 0 then (-11) else if (S 242 s) = l then 0 else (-12)
theorem c_X11_found {s : Int} {l : Int} {S : rS} (hB : Bd S) (h_s : 0 ≤ s ∧ s < 4) (h_l : -2147483648 ≤ l ∧ l < 2147483648) : CS 1 82 [.inr (.inr 232), .inl s, .inl l] S (fun r' S' => r' = some (.inl (v_X11_found S s l)) ∧ S' = S) := by
  refine RS.beg (ls := [some (.inr (.inr 232)), some (.inl s), some (.inl l)]) rfl rfl rfl rfl rfl ?_
  refine r_aload (pc' := 1) rfl rfl rfl ?_
  refine r_getr (pc' := 4) (v := 243) rfl rfl rfl rfl rfl ?_
  refine r_iload (pc' := 5) rfl rfl rfl ?_
  refine r_aldv (pc' := 6) (v := (S 243 s)) 4 rfl rfl rfl (by omega) rfl ?_
  have b1 : -1 ≤ S 243 s ∧ S 243 s ≤ 24 := hB 243 s
  by_cases h2 : (S 243 s) < 0
  · refine r_if_ge0 (pc' := 9) rfl rfl (by omega) (by omega) ?_
    refine r_const (pc' := 11) rfl rfl ?_
    refine r_goto (pc' := 30) rfl rfl ?_
    refine q_iret rfl rfl rfl ?_
    exact ⟨by unfold v_X11_found; rw [if_pos h2], rfl⟩
  · refine r_if_ge1 (pc' := 14) rfl rfl (by omega) (by omega) ?_
    refine r_aload (pc' := 15) rfl rfl rfl ?_
    refine r_getr (pc' := 18) (v := 242) rfl rfl rfl rfl rfl ?_
    refine r_iload (pc' := 19) rfl rfl rfl ?_
    refine r_aldv (pc' := 20) (v := (S 242 s)) 4 rfl rfl rfl (by omega) rfl ?_
    have b3 : 0 ≤ S 242 s ∧ S 242 s ≤ 2 := hB 242 s
    refine r_iload (pc' := 21) rfl rfl rfl ?_
    by_cases h4 : (S 242 s) = l
    · refine r_icmp_eq1 (pc' := 29) rfl rfl (by omega) (by omega) ?_
      refine r_const (pc' := 30) rfl rfl ?_
      refine q_iret rfl rfl rfl ?_
      exact ⟨by unfold v_X11_found; rw [if_neg h2, if_pos h4], rfl⟩
    · refine r_icmp_eq0 (pc' := 24) rfl rfl (by omega) (by omega) ?_
      refine r_const (pc' := 26) rfl rfl ?_
      refine r_goto (pc' := 30) rfl rfl ?_
      refine q_iret rfl rfl rfl ?_
      exact ⟨by unfold v_X11_found; rw [if_neg h2, if_neg h4], rfl⟩
noncomputable def w_X11_shelf (S : rS) (s : Int) (l : Int) (n : Int) : Int × rS := if 0 ≤ s ∧ s ≤ 3 then if 0 ≤ l ∧ l ≤ 2 then if 24 < n then ((-3), S) else if n < 0 then ((-14), S) else (n, mx_up (mx_up (fz S 244 (24 * s) 24) 242 s l) 243 s n) else ((-3), S) else ((-2), S)
theorem c_X11_shelf {s : Int} {l : Int} {n : Int} {S : rS} (hB : Bd S) (h_s : -2147483648 ≤ s ∧ s < 2147483648) (h_l : -2147483648 ≤ l ∧ l < 2147483648) (h_n : -2147483648 ≤ n ∧ n < 2147483648) : CS 3 123 [.inr (.inr 232), .inl s, .inl l, .inl n] S (fun r' S' => r' = some (.inl ((w_X11_shelf S s l n).1)) ∧ S' = (w_X11_shelf S s l n).2 ∧ Bd S') := by
  refine RS.beg (ls := [some (.inr (.inr 232)), some (.inl s), some (.inl l), some (.inl n), none]) rfl rfl rfl rfl rfl ?_
  refine r_iload (pc' := 1) rfl rfl rfl ?_
  by_cases h1 : 0 ≤ s ∧ s ≤ 3
  · skip
    refine q_callE (pc' := 4) (w := some (.inl 1)) (S2 := S) (st' := [.inl 1]) rfl rfl rfl (bi_pos h1 (c_X11_isShelf (k := s) (S := S)  (show -2147483648 ≤ s ∧ s < 2147483648 from by omega))) (by decide) rfl rfl (Nat.le_of_ble_eq_true rfl) (fun q => absurd rfl q) rfl rfl ?_
    refine r_if_ne1 (pc' := 10) rfl rfl (by decide) (by decide) ?_
    refine r_iload (pc' := 11) rfl rfl rfl ?_
    by_cases h2 : 0 ≤ l ∧ l ≤ 2
    · skip
      refine q_callE (pc' := 14) (w := some (.inl 1)) (S2 := S) (st' := [.inl 1]) rfl rfl rfl (bi_pos h2 (c_X11_isLane (k := l) (S := S)  (show -2147483648 ≤ l ∧ l < 2147483648 from by omega))) (by decide) rfl rfl (Nat.le_of_ble_eq_true rfl) (fun q => absurd rfl q) rfl rfl ?_
      refine r_if_eq0 (pc' := 17) rfl rfl (by decide) (by decide) ?_
      refine r_iload (pc' := 18) rfl rfl rfl ?_
      refine r_const (pc' := 20) rfl rfl ?_
      by_cases h3 : 24 < n
      · refine r_icmp_le0 (pc' := 23) rfl rfl (by omega) (by omega) ?_
        refine r_const (pc' := 25) rfl rfl ?_
        refine q_iret rfl rfl rfl ?_
        have ew : w_X11_shelf S s l n = ((-3), S) := by unfold w_X11_shelf; rw [if_pos h1, if_pos h2, if_pos h3]
        exact ⟨by rw [ew], by rw [ew], hB⟩
      · refine r_icmp_le1 (pc' := 26) rfl rfl (by omega) (by omega) ?_
        refine r_iload (pc' := 27) rfl rfl rfl ?_
        by_cases h4 : n < 0
        · refine r_if_ge0 (pc' := 30) rfl rfl (by omega) (by omega) ?_
          refine r_const (pc' := 32) rfl rfl ?_
          refine q_iret rfl rfl rfl ?_
          have ew : w_X11_shelf S s l n = ((-14), S) := by unfold w_X11_shelf; rw [if_pos h1, if_pos h2, if_neg h3, if_pos h4]
          exact ⟨by rw [ew], by rw [ew], hB⟩
        · refine r_if_ge1 (pc' := 33) rfl rfl (by omega) (by omega) ?_
          refine r_const (pc' := 34) rfl rfl ?_
          refine r_istore (pc' := 36) (ls' := [some (.inr (.inr 232)), some (.inl s), some (.inl l), some (.inl n), some (.inl 0)]) rfl rfl rfl rfl ?_
          refine r_mem (show S = fz S 244 (24 * s) (0 : Int) from by exact fz_0 _ _ _) ?_
          refine r_while (α := Int) (fun z' => [some (.inr (.inr 232)), some (.inl s), some (.inl l), some (.inl n), some (.inl z')]) (fun z' => fz S 244 (24 * s) z') (fun z' => (0 ≤ z' ∧ z' ≤ 24)) (fun z' => (24 - z').toNat) ?_ 0 (show (0 ≤ (0 : Int) ∧ (0 : Int) ≤ 24) from by omega)
          rintro k hI' ih36
          have hI' : (0 ≤ k ∧ k ≤ 24) := hI'
          have i1 := hI'
          show RS _ _ _ _ [some (.inr (.inr 232)), some (.inl s), some (.inl l), some (.inl n), some (.inl k)] [] (fz S 244 (24 * s) k)
          have hB5 : Bd (fz S 244 (24 * s) k) := by exact Bd_fz hB
          refine r_iload (pc' := 38) rfl rfl rfl ?_
          refine r_const (pc' := 40) rfl rfl ?_
          by_cases h6 : k < 24
          · refine r_icmp_ge0 (pc' := 43) rfl rfl (by omega) (by omega) ?_
            refine r_aload (pc' := 44) rfl rfl rfl ?_
            refine r_getr (pc' := 47) (v := 244) rfl rfl rfl rfl rfl ?_
            refine r_const (pc' := 49) rfl rfl ?_
            refine r_iload (pc' := 50) rfl rfl rfl ?_
            refine r_imul (pc' := 51) rfl rfl ?_
            refine r_iload (pc' := 53) rfl rfl rfl ?_
            refine r_iadd (pc' := 54) rfl rfl ?_
            refine r_const (pc' := 55) rfl rfl ?_
            refine r_ast (pc' := 56) 96 rfl rfl rfl (by omega) ?_
            refine r_iinc (pc' := 59) (ls' := [some (.inr (.inr 232)), some (.inl s), some (.inl l), some (.inl n), some (.inl (k + 1))]) rfl rfl rfl rfl rfl ?_
            refine r_goto (pc' := 36) rfl rfl ?_
            refine r_mem (show mx_up (fz S 244 (24 * s) k) 244 ((24 * s) + k) 0 = fz S 244 (24 * s) (k + 1) from by exact fz_s (by omega) rfl) ?_
            exact ih36 (k + 1) (show (0 ≤ (k + 1) ∧ (k + 1) ≤ 24) from by omega) (show (24 - (k + 1)).toNat < (24 - k).toNat from by omega)
          · refine r_icmp_ge1 (pc' := 62) rfl rfl (by omega) (by omega) ?_
            refine r_aload (pc' := 63) rfl rfl rfl ?_
            refine r_getr (pc' := 66) (v := 242) rfl rfl rfl rfl rfl ?_
            refine r_iload (pc' := 67) rfl rfl rfl ?_
            refine r_iload (pc' := 68) rfl rfl rfl ?_
            refine r_ast (pc' := 69) 4 rfl rfl rfl (by omega) ?_
            refine r_aload (pc' := 70) rfl rfl rfl ?_
            refine r_getr (pc' := 73) (v := 243) rfl rfl rfl rfl rfl ?_
            refine r_iload (pc' := 74) rfl rfl rfl ?_
            refine r_iload (pc' := 75) rfl rfl rfl ?_
            refine r_ast (pc' := 76) 4 rfl rfl rfl (by omega) ?_
            refine r_iload (pc' := 77) rfl rfl rfl ?_
            refine q_iret rfl rfl rfl ?_
            obtain rfl : 24 = k := by omega
            have ew : w_X11_shelf S s l n = (n, mx_up (mx_up (fz S 244 (24 * s) 24) 242 s l) 243 s n) := by unfold w_X11_shelf; rw [if_pos h1, if_pos h2, if_neg h3, if_neg h4]
            exact ⟨by rw [ew], by rw [ew], (Bd_up (Bd_up hB5 (show (0 : Int) ≤ l from by omega) (show l ≤ (2 : Int) from by omega)) (show (-1 : Int) ≤ n from by omega) (show n ≤ (24 : Int) from by omega))⟩
    · skip
      refine q_callE (pc' := 14) (w := some (.inl 0)) (S2 := S) (st' := [.inl 0]) rfl rfl rfl (bi_neg h2 (c_X11_isLane (k := l) (S := S)  (show -2147483648 ≤ l ∧ l < 2147483648 from by omega))) (by decide) rfl rfl (Nat.le_of_ble_eq_true rfl) (fun q => absurd rfl q) rfl rfl ?_
      refine r_if_eq1 (pc' := 23) rfl rfl (by decide) (by decide) ?_
      refine r_const (pc' := 25) rfl rfl ?_
      refine q_iret rfl rfl rfl ?_
      have ew : w_X11_shelf S s l n = ((-3), S) := by unfold w_X11_shelf; rw [if_pos h1, if_neg h2]
      exact ⟨by rw [ew], by rw [ew], hB⟩
  · skip
    refine q_callE (pc' := 4) (w := some (.inl 0)) (S2 := S) (st' := [.inl 0]) rfl rfl rfl (bi_neg h1 (c_X11_isShelf (k := s) (S := S)  (show -2147483648 ≤ s ∧ s < 2147483648 from by omega))) (by decide) rfl rfl (Nat.le_of_ble_eq_true rfl) (fun q => absurd rfl q) rfl rfl ?_
    refine r_if_ne0 (pc' := 7) rfl rfl (by decide) (by decide) ?_
    refine r_const (pc' := 9) rfl rfl ?_
    refine q_iret rfl rfl rfl ?_
    have ew : w_X11_shelf S s l n = ((-2), S) := by unfold w_X11_shelf; rw [if_neg h1]
    exact ⟨by rw [ew], by rw [ew], hB⟩
theorem fnd_r {S : rS} {s l : Int} : -20 ≤ v_X11_found S s l ∧ v_X11_found S s l ≤ 0 := by
  unfold v_X11_found
  split
  · omega
  · split <;> omega
theorem fnd_0 {S : rS} {s l : Int} (h : v_X11_found S s l = 0) : 0 ≤ S 243 s ∧ S 242 s = l := by
  unfold v_X11_found at h
  split at h
  · omega
  · split at h <;> omega
noncomputable def w_X11_lay (S : rS) (s : Int) (l : Int) (i : Int) (v : Int) : Int × rS := if 0 ≤ s ∧ s ≤ 3 then if 0 ≤ l ∧ l ≤ 2 then if (v_X11_found S s l) = 0 then if (0 : Int) ≤ i ∧ i ≤ ((S 243 s) - 1) then (1, mx_up S 244 ((24 * s) + i) (cutl l v)) else ((-13), S) else ((v_X11_found S s l), S) else ((-3), S) else ((-2), S)
theorem c_X11_lay {s : Int} {l : Int} {i : Int} {v : Int} {S : rS} (hB : Bd S) (h_s : -2147483648 ≤ s ∧ s < 2147483648) (h_l : -2147483648 ≤ l ∧ l < 2147483648) (h_i : -2147483648 ≤ i ∧ i < 2147483648) (h_v : -2147483648 ≤ v ∧ v < 2147483648) : CS 3 95 [.inr (.inr 232), .inl s, .inl l, .inl i, .inl v] S (fun r' S' => r' = some (.inl ((w_X11_lay S s l i v).1)) ∧ S' = (w_X11_lay S s l i v).2 ∧ Bd S') := by
  refine RS.beg (ls := [some (.inr (.inr 232)), some (.inl s), some (.inl l), some (.inl i), some (.inl v), none]) rfl rfl rfl rfl rfl ?_
  refine r_iload (pc' := 1) rfl rfl rfl ?_
  by_cases h1 : 0 ≤ s ∧ s ≤ 3
  · skip
    refine q_callE (pc' := 4) (w := some (.inl 1)) (S2 := S) (st' := [.inl 1]) rfl rfl rfl (bi_pos h1 (c_X11_isShelf (k := s) (S := S)  (show -2147483648 ≤ s ∧ s < 2147483648 from by omega))) (by decide) rfl rfl (Nat.le_of_ble_eq_true rfl) (fun q => absurd rfl q) rfl rfl ?_
    refine r_if_ne1 (pc' := 10) rfl rfl (by decide) (by decide) ?_
    refine r_iload (pc' := 11) rfl rfl rfl ?_
    by_cases h2 : 0 ≤ l ∧ l ≤ 2
    · skip
      refine q_callE (pc' := 14) (w := some (.inl 1)) (S2 := S) (st' := [.inl 1]) rfl rfl rfl (bi_pos h2 (c_X11_isLane (k := l) (S := S)  (show -2147483648 ≤ l ∧ l < 2147483648 from by omega))) (by decide) rfl rfl (Nat.le_of_ble_eq_true rfl) (fun q => absurd rfl q) rfl rfl ?_
      refine r_if_ne1 (pc' := 20) rfl rfl (by decide) (by decide) ?_
      refine r_aload (pc' := 21) rfl rfl rfl ?_
      refine r_iload (pc' := 22) rfl rfl rfl ?_
      refine r_iload (pc' := 23) rfl rfl rfl ?_
      refine q_callE (pc' := 26) (w := some (.inl (v_X11_found S s l))) (S2 := S) (st' := [.inl (v_X11_found S s l)]) rfl rfl rfl (c_X11_found (s := s) (l := l) (S := S) hB (show 0 ≤ s ∧ s < 4 from by omega) (show -2147483648 ≤ l ∧ l < 2147483648 from by omega)) (by decide) rfl rfl (Nat.le_of_ble_eq_true rfl) (fun _ _ => ⟨_, _, rfl, rfl⟩) rfl rfl ?_
      have b3 : -20 ≤ (v_X11_found S s l) ∧ (v_X11_found S s l) ≤ 0 := fnd_r
      refine r_istore (pc' := 28) (ls' := [some (.inr (.inr 232)), some (.inl s), some (.inl l), some (.inl i), some (.inl v), some (.inl (v_X11_found S s l))]) rfl rfl rfl rfl ?_
      refine r_iload (pc' := 30) rfl rfl rfl ?_
      by_cases h4 : (v_X11_found S s l) = 0
      · refine r_if_eq1 (pc' := 36) rfl rfl (by omega) (by omega) ?_
        refine r_iload (pc' := 37) rfl rfl rfl ?_
        refine r_i2l (pc' := 38) rfl rfl (by omega) ?_
        refine r_lcon (pc' := 39) rfl rfl ?_
        refine r_aload (pc' := 40) rfl rfl rfl ?_
        refine r_getr (pc' := 43) (v := 243) rfl rfl rfl rfl rfl ?_
        refine r_iload (pc' := 44) rfl rfl rfl ?_
        refine r_aldv (pc' := 45) (v := (S 243 s)) 4 rfl rfl rfl (by omega) rfl ?_
        have b5 : -1 ≤ S 243 s ∧ S 243 s ≤ 24 := hB 243 s
        refine r_const (pc' := 46) rfl rfl ?_
        refine r_isub (pc' := 47) rfl rfl ?_
        refine r_i2l (pc' := 48) rfl rfl (by omega) ?_
        by_cases h6 : (0 : Int) ≤ i ∧ i ≤ ((S 243 s) - 1)
        · skip
          refine q_callE (pc' := 51) (w := some (.inl 1)) (S2 := S) (st' := [.inl 1]) rfl rfl rfl (bi_pos h6 (c_X11_in (a := i) (b := 0) (c := ((S 243 s) - 1)) (S := S)  (show -2147483648 ≤ i ∧ i < 2147483648 from by omega) (show -2147483648 ≤ (0 : Int) ∧ (0 : Int) < 2147483648 from by omega) (show -2147483648 ≤ ((S 243 s) - 1) ∧ ((S 243 s) - 1) < 2147483648 from by omega))) (by decide) rfl rfl (Nat.le_of_ble_eq_true rfl) (fun q => absurd rfl q) rfl rfl ?_
          refine r_if_ne1 (pc' := 57) rfl rfl (by decide) (by decide) ?_
          refine r_aload (pc' := 58) rfl rfl rfl ?_
          refine r_getr (pc' := 61) (v := 244) rfl rfl rfl rfl rfl ?_
          refine r_const (pc' := 63) rfl rfl ?_
          refine r_iload (pc' := 64) rfl rfl rfl ?_
          refine r_imul (pc' := 65) rfl rfl ?_
          refine r_iload (pc' := 66) rfl rfl rfl ?_
          refine r_iadd (pc' := 67) rfl rfl ?_
          refine r_iload (pc' := 68) rfl rfl rfl ?_
          refine r_iload (pc' := 70) rfl rfl rfl ?_
          refine q_callE (pc' := 73) (w := some (.inl (cutl l v))) (S2 := S) (st' := [.inl (cutl l v), .inl ((24 * s) + i), .inr (.inr 244)]) rfl rfl rfl (c_X11_cut (l := l) (v := v) (S := S)  (show -2147483648 ≤ l ∧ l < 2147483648 from by omega) (show -2147483648 ≤ v ∧ v < 2147483648 from by omega)) (by decide) rfl rfl (Nat.le_of_ble_eq_true rfl) (fun q => absurd rfl q) rfl rfl ?_
          have b7 : -2147483648 ≤ (cutl l v) ∧ (cutl l v) < 2147483648 := cutl_r (by omega)
          refine r_ast (pc' := 74) 96 rfl rfl rfl (by omega) ?_
          refine r_const (pc' := 75) rfl rfl ?_
          refine q_iret rfl rfl rfl ?_
          have ew : w_X11_lay S s l i v = (1, mx_up S 244 ((24 * s) + i) (cutl l v)) := by unfold w_X11_lay; rw [if_pos h1, if_pos h2, if_pos h4, if_pos h6]
          exact ⟨by rw [ew], by rw [ew], (Bd_up hB (show (-2147483648 : Int) ≤ (cutl l v) from by omega) (show (cutl l v) ≤ (2147483647 : Int) from by omega))⟩
        · skip
          refine q_callE (pc' := 51) (w := some (.inl 0)) (S2 := S) (st' := [.inl 0]) rfl rfl rfl (bi_neg h6 (c_X11_in (a := i) (b := 0) (c := ((S 243 s) - 1)) (S := S)  (show -2147483648 ≤ i ∧ i < 2147483648 from by omega) (show -2147483648 ≤ (0 : Int) ∧ (0 : Int) < 2147483648 from by omega) (show -2147483648 ≤ ((S 243 s) - 1) ∧ ((S 243 s) - 1) < 2147483648 from by omega))) (by decide) rfl rfl (Nat.le_of_ble_eq_true rfl) (fun q => absurd rfl q) rfl rfl ?_
          refine r_if_ne0 (pc' := 54) rfl rfl (by decide) (by decide) ?_
          refine r_const (pc' := 56) rfl rfl ?_
          refine q_iret rfl rfl rfl ?_
          have ew : w_X11_lay S s l i v = ((-13), S) := by unfold w_X11_lay; rw [if_pos h1, if_pos h2, if_pos h4, if_neg h6]
          exact ⟨by rw [ew], by rw [ew], hB⟩
      · refine r_if_eq0 (pc' := 33) rfl rfl (by omega) (by omega) ?_
        refine r_iload (pc' := 35) rfl rfl rfl ?_
        refine q_iret rfl rfl rfl ?_
        have ew : w_X11_lay S s l i v = ((v_X11_found S s l), S) := by unfold w_X11_lay; rw [if_pos h1, if_pos h2, if_neg h4]
        exact ⟨by rw [ew], by rw [ew], hB⟩
    · skip
      refine q_callE (pc' := 14) (w := some (.inl 0)) (S2 := S) (st' := [.inl 0]) rfl rfl rfl (bi_neg h2 (c_X11_isLane (k := l) (S := S)  (show -2147483648 ≤ l ∧ l < 2147483648 from by omega))) (by decide) rfl rfl (Nat.le_of_ble_eq_true rfl) (fun q => absurd rfl q) rfl rfl ?_
      refine r_if_ne0 (pc' := 17) rfl rfl (by decide) (by decide) ?_
      refine r_const (pc' := 19) rfl rfl ?_
      refine q_iret rfl rfl rfl ?_
      have ew : w_X11_lay S s l i v = ((-3), S) := by unfold w_X11_lay; rw [if_pos h1, if_neg h2]
      exact ⟨by rw [ew], by rw [ew], hB⟩
  · skip
    refine q_callE (pc' := 4) (w := some (.inl 0)) (S2 := S) (st' := [.inl 0]) rfl rfl rfl (bi_neg h1 (c_X11_isShelf (k := s) (S := S)  (show -2147483648 ≤ s ∧ s < 2147483648 from by omega))) (by decide) rfl rfl (Nat.le_of_ble_eq_true rfl) (fun q => absurd rfl q) rfl rfl ?_
    refine r_if_ne0 (pc' := 7) rfl rfl (by decide) (by decide) ?_
    refine r_const (pc' := 9) rfl rfl ?_
    refine q_iret rfl rfl rfl ?_
    have ew : w_X11_lay S s l i v = ((-2), S) := by unfold w_X11_lay; rw [if_neg h1]
    exact ⟨by rw [ew], by rw [ew], hB⟩
noncomputable def w_X11_drop (S : rS) (s : Int) : Int × rS := if 0 ≤ s ∧ s ≤ 3 then if (S 243 s) < 0 then ((-11), S) else ((S 243 s), mx_up S 243 s (-1)) else ((-2), S)
theorem c_X11_drop {s : Int} {S : rS} (hB : Bd S) (h_s : -2147483648 ≤ s ∧ s < 2147483648) : CS 3 74 [.inr (.inr 232), .inl s] S (fun r' S' => r' = some (.inl ((w_X11_drop S s).1)) ∧ S' = (w_X11_drop S s).2 ∧ Bd S') := by
  refine RS.beg (ls := [some (.inr (.inr 232)), some (.inl s), none]) rfl rfl rfl rfl rfl ?_
  refine r_iload (pc' := 1) rfl rfl rfl ?_
  by_cases h1 : 0 ≤ s ∧ s ≤ 3
  · skip
    refine q_callE (pc' := 4) (w := some (.inl 1)) (S2 := S) (st' := [.inl 1]) rfl rfl rfl (bi_pos h1 (c_X11_isShelf (k := s) (S := S)  (show -2147483648 ≤ s ∧ s < 2147483648 from by omega))) (by decide) rfl rfl (Nat.le_of_ble_eq_true rfl) (fun q => absurd rfl q) rfl rfl ?_
    refine r_if_ne1 (pc' := 10) rfl rfl (by decide) (by decide) ?_
    refine r_aload (pc' := 11) rfl rfl rfl ?_
    refine r_getr (pc' := 14) (v := 243) rfl rfl rfl rfl rfl ?_
    refine r_iload (pc' := 15) rfl rfl rfl ?_
    refine r_aldv (pc' := 16) (v := (S 243 s)) 4 rfl rfl rfl (by omega) rfl ?_
    have b2 : -1 ≤ S 243 s ∧ S 243 s ≤ 24 := hB 243 s
    refine r_istore (pc' := 17) (ls' := [some (.inr (.inr 232)), some (.inl s), some (.inl (S 243 s))]) rfl rfl rfl rfl ?_
    refine r_iload (pc' := 18) rfl rfl rfl ?_
    by_cases h3 : (S 243 s) < 0
    · refine r_if_ge0 (pc' := 21) rfl rfl (by omega) (by omega) ?_
      refine r_const (pc' := 23) rfl rfl ?_
      refine q_iret rfl rfl rfl ?_
      have ew : w_X11_drop S s = ((-11), S) := by unfold w_X11_drop; rw [if_pos h1, if_pos h3]
      exact ⟨by rw [ew], by rw [ew], hB⟩
    · refine r_if_ge1 (pc' := 24) rfl rfl (by omega) (by omega) ?_
      refine r_aload (pc' := 25) rfl rfl rfl ?_
      refine r_getr (pc' := 28) (v := 243) rfl rfl rfl rfl rfl ?_
      refine r_iload (pc' := 29) rfl rfl rfl ?_
      refine r_const (pc' := 30) rfl rfl ?_
      refine r_ast (pc' := 31) 4 rfl rfl rfl (by omega) ?_
      refine r_iload (pc' := 32) rfl rfl rfl ?_
      refine q_iret rfl rfl rfl ?_
      have ew : w_X11_drop S s = ((S 243 s), mx_up S 243 s (-1)) := by unfold w_X11_drop; rw [if_pos h1, if_neg h3]
      exact ⟨by rw [ew], by rw [ew], (Bd_up hB (show (-1 : Int) ≤ (-1) from by omega) (show (-1) ≤ (24 : Int) from by omega))⟩
  · skip
    refine q_callE (pc' := 4) (w := some (.inl 0)) (S2 := S) (st' := [.inl 0]) rfl rfl rfl (bi_neg h1 (c_X11_isShelf (k := s) (S := S)  (show -2147483648 ≤ s ∧ s < 2147483648 from by omega))) (by decide) rfl rfl (Nat.le_of_ble_eq_true rfl) (fun q => absurd rfl q) rfl rfl ?_
    refine r_if_ne0 (pc' := 7) rfl rfl (by decide) (by decide) ?_
    refine r_const (pc' := 9) rfl rfl ?_
    refine q_iret rfl rfl rfl ?_
    have ew : w_X11_drop S s = ((-2), S) := by unfold w_X11_drop; rw [if_neg h1]
    exact ⟨by rw [ew], by rw [ew], hB⟩
noncomputable def w_X11_copy (S : rS) (f : Int) (i : Int) (t : Int) (j : Int) (n : Int) : Int × rS := if 0 ≤ f ∧ f ≤ 3 then if 0 ≤ t ∧ t ≤ 3 then if (S 243 f) < 0 then ((-11), S) else if (S 243 t) < 0 then ((-11), S) else if (S 242 f) = (S 242 t) then if i < 0 then ((-13), S) else if j < 0 then ((-13), S) else if n < 0 then ((-13), S) else if (S 243 f) < (i + n) then ((-13), S) else if (S 243 t) < (j + n) then ((-13), S) else if i < j then (n, (mx_cp S 244 (24 * f + i + (n - n)) 244 (24 * t + j + (n - n)) n)) else (n, (mx_cp S 244 (24 * f + i) 244 (24 * t + j) n)) else ((-15), S) else ((-2), S) else ((-2), S)
theorem c_X11_copy {f : Int} {i : Int} {t : Int} {j : Int} {n : Int} {S : rS} (hB : Bd S) (h_f : -2147483648 ≤ f ∧ f < 2147483648) (h_i : -2147483648 ≤ i ∧ i < 2147483648) (h_t : -2147483648 ≤ t ∧ t < 2147483648) (h_j : -2147483648 ≤ j ∧ j < 2147483648) (h_n : -2147483648 ≤ n ∧ n < 2147483648) : CS 3 67 [.inr (.inr 232), .inl f, .inl i, .inl t, .inl j, .inl n] S (fun r' S' => r' = some (.inl ((w_X11_copy S f i t j n).1)) ∧ S' = (w_X11_copy S f i t j n).2 ∧ Bd S') := by
  refine RS.beg (ls := [some (.inr (.inr 232)), some (.inl f), some (.inl i), some (.inl t), some (.inl j), some (.inl n), none, none, none]) rfl rfl rfl rfl rfl ?_
  refine r_iload (pc' := 1) rfl rfl rfl ?_
  by_cases h1 : 0 ≤ f ∧ f ≤ 3
  · skip
    refine q_callE (pc' := 4) (w := some (.inl 1)) (S2 := S) (st' := [.inl 1]) rfl rfl rfl (bi_pos h1 (c_X11_isShelf (k := f) (S := S)  (show -2147483648 ≤ f ∧ f < 2147483648 from by omega))) (by decide) rfl rfl (Nat.le_of_ble_eq_true rfl) (fun q => absurd rfl q) rfl rfl ?_
    refine r_if_eq0 (pc' := 7) rfl rfl (by decide) (by decide) ?_
    refine r_iload (pc' := 8) rfl rfl rfl ?_
    by_cases h2 : 0 ≤ t ∧ t ≤ 3
    · skip
      refine q_callE (pc' := 11) (w := some (.inl 1)) (S2 := S) (st' := [.inl 1]) rfl rfl rfl (bi_pos h2 (c_X11_isShelf (k := t) (S := S)  (show -2147483648 ≤ t ∧ t < 2147483648 from by omega))) (by decide) rfl rfl (Nat.le_of_ble_eq_true rfl) (fun q => absurd rfl q) rfl rfl ?_
      refine r_if_ne1 (pc' := 17) rfl rfl (by decide) (by decide) ?_
      refine r_aload (pc' := 18) rfl rfl rfl ?_
      refine r_getr (pc' := 21) (v := 243) rfl rfl rfl rfl rfl ?_
      refine r_iload (pc' := 22) rfl rfl rfl ?_
      refine r_aldv (pc' := 23) (v := (S 243 f)) 4 rfl rfl rfl (by omega) rfl ?_
      have b3 : -1 ≤ S 243 f ∧ S 243 f ≤ 24 := hB 243 f
      by_cases h4 : (S 243 f) < 0
      · refine r_if_lt1 (pc' := 35) rfl rfl (by omega) (by omega) ?_
        refine r_const (pc' := 37) rfl rfl ?_
        refine q_iret rfl rfl rfl ?_
        have ew : w_X11_copy S f i t j n = ((-11), S) := by unfold w_X11_copy; rw [if_pos h1, if_pos h2, if_pos h4]
        exact ⟨by rw [ew], by rw [ew], hB⟩
      · refine r_if_lt0 (pc' := 26) rfl rfl (by omega) (by omega) ?_
        refine r_aload (pc' := 27) rfl rfl rfl ?_
        refine r_getr (pc' := 30) (v := 243) rfl rfl rfl rfl rfl ?_
        refine r_iload (pc' := 31) rfl rfl rfl ?_
        refine r_aldv (pc' := 32) (v := (S 243 t)) 4 rfl rfl rfl (by omega) rfl ?_
        have b5 : -1 ≤ S 243 t ∧ S 243 t ≤ 24 := hB 243 t
        by_cases h6 : (S 243 t) < 0
        · refine r_if_ge0 (pc' := 35) rfl rfl (by omega) (by omega) ?_
          refine r_const (pc' := 37) rfl rfl ?_
          refine q_iret rfl rfl rfl ?_
          have ew : w_X11_copy S f i t j n = ((-11), S) := by unfold w_X11_copy; rw [if_pos h1, if_pos h2, if_neg h4, if_pos h6]
          exact ⟨by rw [ew], by rw [ew], hB⟩
        · refine r_if_ge1 (pc' := 38) rfl rfl (by omega) (by omega) ?_
          refine r_aload (pc' := 39) rfl rfl rfl ?_
          refine r_getr (pc' := 42) (v := 242) rfl rfl rfl rfl rfl ?_
          refine r_iload (pc' := 43) rfl rfl rfl ?_
          refine r_aldv (pc' := 44) (v := (S 242 f)) 4 rfl rfl rfl (by omega) rfl ?_
          have b7 : 0 ≤ S 242 f ∧ S 242 f ≤ 2 := hB 242 f
          refine r_aload (pc' := 45) rfl rfl rfl ?_
          refine r_getr (pc' := 48) (v := 242) rfl rfl rfl rfl rfl ?_
          refine r_iload (pc' := 49) rfl rfl rfl ?_
          refine r_aldv (pc' := 50) (v := (S 242 t)) 4 rfl rfl rfl (by omega) rfl ?_
          have b8 : 0 ≤ S 242 t ∧ S 242 t ≤ 2 := hB 242 t
          by_cases h9 : (S 242 f) = (S 242 t)
          · refine r_icmp_eq1 (pc' := 56) rfl rfl (by omega) (by omega) ?_
            refine r_iload (pc' := 57) rfl rfl rfl ?_
            by_cases h10 : i < 0
            · refine r_if_lt1 (pc' := 105) rfl rfl (by omega) (by omega) ?_
              refine r_const (pc' := 107) rfl rfl ?_
              refine q_iret rfl rfl rfl ?_
              have ew : w_X11_copy S f i t j n = ((-13), S) := by unfold w_X11_copy; rw [if_pos h1, if_pos h2, if_neg h4, if_neg h6, if_pos h9, if_pos h10]
              exact ⟨by rw [ew], by rw [ew], hB⟩
            · refine r_if_lt0 (pc' := 60) rfl rfl (by omega) (by omega) ?_
              refine r_iload (pc' := 62) rfl rfl rfl ?_
              by_cases h11 : j < 0
              · refine r_if_lt1 (pc' := 105) rfl rfl (by omega) (by omega) ?_
                refine r_const (pc' := 107) rfl rfl ?_
                refine q_iret rfl rfl rfl ?_
                have ew : w_X11_copy S f i t j n = ((-13), S) := by unfold w_X11_copy; rw [if_pos h1, if_pos h2, if_neg h4, if_neg h6, if_pos h9, if_neg h10, if_pos h11]
                exact ⟨by rw [ew], by rw [ew], hB⟩
              · refine r_if_lt0 (pc' := 65) rfl rfl (by omega) (by omega) ?_
                refine r_iload (pc' := 67) rfl rfl rfl ?_
                by_cases h12 : n < 0
                · refine r_if_lt1 (pc' := 105) rfl rfl (by omega) (by omega) ?_
                  refine r_const (pc' := 107) rfl rfl ?_
                  refine q_iret rfl rfl rfl ?_
                  have ew : w_X11_copy S f i t j n = ((-13), S) := by unfold w_X11_copy; rw [if_pos h1, if_pos h2, if_neg h4, if_neg h6, if_pos h9, if_neg h10, if_neg h11, if_pos h12]
                  exact ⟨by rw [ew], by rw [ew], hB⟩
                · refine r_if_lt0 (pc' := 70) rfl rfl (by omega) (by omega) ?_
                  refine r_iload (pc' := 71) rfl rfl rfl ?_
                  refine r_i2l (pc' := 72) rfl rfl (by omega) ?_
                  refine r_iload (pc' := 74) rfl rfl rfl ?_
                  refine r_i2l (pc' := 75) rfl rfl (by omega) ?_
                  refine r_ladd (pc' := 76) rfl rfl ?_
                  refine r_aload (pc' := 77) rfl rfl rfl ?_
                  refine r_getr (pc' := 80) (v := 243) rfl rfl rfl rfl rfl ?_
                  refine r_iload (pc' := 81) rfl rfl rfl ?_
                  refine r_aldv (pc' := 82) (v := (S 243 f)) 4 rfl rfl rfl (by omega) rfl ?_
                  refine r_i2l (pc' := 83) rfl rfl (by omega) ?_
                  refine r_lcmp (pc' := 84) rfl rfl (by omega) ?_
                  have b13 := mx_cmp_b (i + n) (S 243 f)
                  by_cases h14 : (S 243 f) < (i + n)
                  · refine r_if_gt1 (pc' := 105) rfl rfl (by omega) (by omega) ?_
                    refine r_const (pc' := 107) rfl rfl ?_
                    refine q_iret rfl rfl rfl ?_
                    have ew : w_X11_copy S f i t j n = ((-13), S) := by unfold w_X11_copy; rw [if_pos h1, if_pos h2, if_neg h4, if_neg h6, if_pos h9, if_neg h10, if_neg h11, if_neg h12, if_pos h14]
                    exact ⟨by rw [ew], by rw [ew], hB⟩
                  · refine r_if_gt0 (pc' := 87) rfl rfl (by omega) (by omega) ?_
                    refine r_iload (pc' := 89) rfl rfl rfl ?_
                    refine r_i2l (pc' := 90) rfl rfl (by omega) ?_
                    refine r_iload (pc' := 92) rfl rfl rfl ?_
                    refine r_i2l (pc' := 93) rfl rfl (by omega) ?_
                    refine r_ladd (pc' := 94) rfl rfl ?_
                    refine r_aload (pc' := 95) rfl rfl rfl ?_
                    refine r_getr (pc' := 98) (v := 243) rfl rfl rfl rfl rfl ?_
                    refine r_iload (pc' := 99) rfl rfl rfl ?_
                    refine r_aldv (pc' := 100) (v := (S 243 t)) 4 rfl rfl rfl (by omega) rfl ?_
                    refine r_i2l (pc' := 101) rfl rfl (by omega) ?_
                    refine r_lcmp (pc' := 102) rfl rfl (by omega) ?_
                    have b15 := mx_cmp_b (j + n) (S 243 t)
                    by_cases h16 : (S 243 t) < (j + n)
                    · refine r_if_le0 (pc' := 105) rfl rfl (by omega) (by omega) ?_
                      refine r_const (pc' := 107) rfl rfl ?_
                      refine q_iret rfl rfl rfl ?_
                      have ew : w_X11_copy S f i t j n = ((-13), S) := by unfold w_X11_copy; rw [if_pos h1, if_pos h2, if_neg h4, if_neg h6, if_pos h9, if_neg h10, if_neg h11, if_neg h12, if_neg h14, if_pos h16]
                      exact ⟨by rw [ew], by rw [ew], hB⟩
                    · refine r_if_le1 (pc' := 108) rfl rfl (by omega) (by omega) ?_
                      refine r_iload (pc' := 109) rfl rfl rfl ?_
                      refine r_iload (pc' := 111) rfl rfl rfl ?_
                      by_cases h17 : i < j
                      · refine r_icmp_ge0 (pc' := 114) rfl rfl (by omega) (by omega) ?_
                        refine r_const (pc' := 115) rfl rfl ?_
                        refine r_goto (pc' := 119) rfl rfl ?_
                        refine r_istore (pc' := 121) (ls' := [some (.inr (.inr 232)), some (.inl f), some (.inl i), some (.inl t), some (.inl j), some (.inl n), some (.inl 1), none, none]) rfl rfl rfl rfl ?_
                        refine r_const (pc' := 122) rfl rfl ?_
                        refine r_istore (pc' := 124) (ls' := [some (.inr (.inr 232)), some (.inl f), some (.inl i), some (.inl t), some (.inl j), some (.inl n), some (.inl 1), some (.inl 0), none]) rfl rfl rfl rfl ?_
                        refine r_mem (show S = mx_cp S 244 (24 * f + i + (n - (0 : Int))) 244 (24 * t + j + (n - (0 : Int))) (0 : Int) from by exact cp_0 _ _ _ _ _) ?_
                        refine r_while (α := Int) (fun z' => [some (.inr (.inr 232)), some (.inl f), some (.inl i), some (.inl t), some (.inl j), some (.inl n), some (.inl 1), some (.inl z'), none]) (fun z' => mx_cp S 244 (24 * f + i + (n - z')) 244 (24 * t + j + (n - z')) z') (fun z' => (0 ≤ z' ∧ z' ≤ n)) (fun z' => (n - z').toNat) ?_ 0 (show (0 ≤ (0 : Int) ∧ (0 : Int) ≤ n) from by omega)
                        rintro k hI' ih124
                        have hI' : (0 ≤ k ∧ k ≤ n) := hI'
                        have i1 := hI'
                        show RS _ _ _ _ [some (.inr (.inr 232)), some (.inl f), some (.inl i), some (.inl t), some (.inl j), some (.inl n), some (.inl 1), some (.inl k), none] [] (mx_cp S 244 (24 * f + i + (n - k)) 244 (24 * t + j + (n - k)) k)
                        have hB18 : Bd (mx_cp S 244 (24 * f + i + (n - k)) 244 (24 * t + j + (n - k)) k) := by exact Bd_cp hB (fun k _ _ => ⟨Int.le_refl _, Int.le_refl _⟩)
                        refine r_iload (pc' := 126) rfl rfl rfl ?_
                        refine r_iload (pc' := 128) rfl rfl rfl ?_
                        by_cases h19 : k < n
                        · refine r_icmp_ge0 (pc' := 131) rfl rfl (by omega) (by omega) ?_
                          refine r_iload (pc' := 133) rfl rfl rfl ?_
                          refine r_if_eq0 (pc' := 136) rfl rfl (by decide) (by decide) ?_
                          refine r_iload (pc' := 138) rfl rfl rfl ?_
                          refine r_const (pc' := 139) rfl rfl ?_
                          refine r_isub (pc' := 140) rfl rfl ?_
                          refine r_iload (pc' := 142) rfl rfl rfl ?_
                          refine r_isub (pc' := 143) rfl rfl ?_
                          refine r_goto (pc' := 148) rfl rfl ?_
                          refine r_istore (pc' := 150) (ls' := [some (.inr (.inr 232)), some (.inl f), some (.inl i), some (.inl t), some (.inl j), some (.inl n), some (.inl 1), some (.inl k), some (.inl ((n - 1) - k))]) rfl rfl rfl rfl ?_
                          refine r_aload (pc' := 151) rfl rfl rfl ?_
                          refine r_getr (pc' := 154) (v := 244) rfl rfl rfl rfl rfl ?_
                          refine r_const (pc' := 156) rfl rfl ?_
                          refine r_iload (pc' := 157) rfl rfl rfl ?_
                          refine r_imul (pc' := 158) rfl rfl ?_
                          refine r_iload (pc' := 160) rfl rfl rfl ?_
                          refine r_iadd (pc' := 161) rfl rfl ?_
                          refine r_iload (pc' := 163) rfl rfl rfl ?_
                          refine r_iadd (pc' := 164) rfl rfl ?_
                          refine r_aload (pc' := 165) rfl rfl rfl ?_
                          refine r_getr (pc' := 168) (v := 244) rfl rfl rfl rfl rfl ?_
                          refine r_const (pc' := 170) rfl rfl ?_
                          refine r_iload (pc' := 171) rfl rfl rfl ?_
                          refine r_imul (pc' := 172) rfl rfl ?_
                          refine r_iload (pc' := 173) rfl rfl rfl ?_
                          refine r_iadd (pc' := 174) rfl rfl ?_
                          refine r_iload (pc' := 176) rfl rfl rfl ?_
                          refine r_iadd (pc' := 177) rfl rfl ?_
                          refine r_aldv (pc' := 178) (v := (S 244 (((24 * f) + i) + ((n - 1) - k)))) 96 rfl rfl rfl (by omega) (cp_ox (by omega)) ?_
                          have b20 : -2147483648 ≤ S 244 (((24 * f) + i) + ((n - 1) - k)) ∧ S 244 (((24 * f) + i) + ((n - 1) - k)) ≤ 2147483647 := hB 244 (((24 * f) + i) + ((n - 1) - k))
                          refine r_ast (pc' := 179) 96 rfl rfl rfl (by omega) ?_
                          refine r_iinc (pc' := 182) (ls' := [some (.inr (.inr 232)), some (.inl f), some (.inl i), some (.inl t), some (.inl j), some (.inl n), some (.inl 1), some (.inl (k + 1)), some (.inl ((n - 1) - k))]) rfl rfl rfl rfl rfl ?_
                          refine r_goto (pc' := 124) rfl rfl ?_
                          refine r_forget [true, true, true, true, true, true, true, true, false] rfl ?_
                          refine r_mem (show mx_up (mx_cp S 244 (24 * f + i + (n - k)) 244 (24 * t + j + (n - k)) k) 244 (((24 * t) + j) + ((n - 1) - k)) (S 244 (((24 * f) + i) + ((n - 1) - k))) = mx_cp S 244 (24 * f + i + (n - (k + 1))) 244 (24 * t + j + (n - (k + 1))) (k + 1) from by exact cp_d (by omega) (by omega) (by omega) rfl) ?_
                          exact ih124 (k + 1) (show (0 ≤ (k + 1) ∧ (k + 1) ≤ n) from by omega) (show (n - (k + 1)).toNat < (n - k).toNat from by omega)
                        · refine r_icmp_ge1 (pc' := 185) rfl rfl (by omega) (by omega) ?_
                          refine r_iload (pc' := 187) rfl rfl rfl ?_
                          refine q_iret rfl rfl rfl ?_
                          obtain rfl : n = k := by omega
                          have ew : w_X11_copy S f i t j n = (n, (mx_cp S 244 (24 * f + i + (n - n)) 244 (24 * t + j + (n - n)) n)) := by unfold w_X11_copy; rw [if_pos h1, if_pos h2, if_neg h4, if_neg h6, if_pos h9, if_neg h10, if_neg h11, if_neg h12, if_neg h14, if_neg h16, if_pos h17]
                          exact ⟨by rw [ew], by rw [ew], hB18⟩
                      · refine r_icmp_ge1 (pc' := 118) rfl rfl (by omega) (by omega) ?_
                        refine r_const (pc' := 119) rfl rfl ?_
                        refine r_istore (pc' := 121) (ls' := [some (.inr (.inr 232)), some (.inl f), some (.inl i), some (.inl t), some (.inl j), some (.inl n), some (.inl 0), none, none]) rfl rfl rfl rfl ?_
                        refine r_const (pc' := 122) rfl rfl ?_
                        refine r_istore (pc' := 124) (ls' := [some (.inr (.inr 232)), some (.inl f), some (.inl i), some (.inl t), some (.inl j), some (.inl n), some (.inl 0), some (.inl 0), none]) rfl rfl rfl rfl ?_
                        refine r_mem (show S = mx_cp S 244 (24 * f + i) 244 (24 * t + j) (0 : Int) from by exact cp_0 _ _ _ _ _) ?_
                        refine r_while (α := Int) (fun z' => [some (.inr (.inr 232)), some (.inl f), some (.inl i), some (.inl t), some (.inl j), some (.inl n), some (.inl 0), some (.inl z'), none]) (fun z' => mx_cp S 244 (24 * f + i) 244 (24 * t + j) z') (fun z' => (0 ≤ z' ∧ z' ≤ n)) (fun z' => (n - z').toNat) ?_ 0 (show (0 ≤ (0 : Int) ∧ (0 : Int) ≤ n) from by omega)
                        rintro k hI' ih124
                        have hI' : (0 ≤ k ∧ k ≤ n) := hI'
                        have i1 := hI'
                        show RS _ _ _ _ [some (.inr (.inr 232)), some (.inl f), some (.inl i), some (.inl t), some (.inl j), some (.inl n), some (.inl 0), some (.inl k), none] [] (mx_cp S 244 (24 * f + i) 244 (24 * t + j) k)
                        have hB21 : Bd (mx_cp S 244 (24 * f + i) 244 (24 * t + j) k) := by exact Bd_cp hB (fun k _ _ => ⟨Int.le_refl _, Int.le_refl _⟩)
                        refine r_iload (pc' := 126) rfl rfl rfl ?_
                        refine r_iload (pc' := 128) rfl rfl rfl ?_
                        by_cases h22 : k < n
                        · refine r_icmp_ge0 (pc' := 131) rfl rfl (by omega) (by omega) ?_
                          refine r_iload (pc' := 133) rfl rfl rfl ?_
                          refine r_if_eq1 (pc' := 146) rfl rfl (by decide) (by decide) ?_
                          refine r_iload (pc' := 148) rfl rfl rfl ?_
                          refine r_istore (pc' := 150) (ls' := [some (.inr (.inr 232)), some (.inl f), some (.inl i), some (.inl t), some (.inl j), some (.inl n), some (.inl 0), some (.inl k), some (.inl k)]) rfl rfl rfl rfl ?_
                          refine r_aload (pc' := 151) rfl rfl rfl ?_
                          refine r_getr (pc' := 154) (v := 244) rfl rfl rfl rfl rfl ?_
                          refine r_const (pc' := 156) rfl rfl ?_
                          refine r_iload (pc' := 157) rfl rfl rfl ?_
                          refine r_imul (pc' := 158) rfl rfl ?_
                          refine r_iload (pc' := 160) rfl rfl rfl ?_
                          refine r_iadd (pc' := 161) rfl rfl ?_
                          refine r_iload (pc' := 163) rfl rfl rfl ?_
                          refine r_iadd (pc' := 164) rfl rfl ?_
                          refine r_aload (pc' := 165) rfl rfl rfl ?_
                          refine r_getr (pc' := 168) (v := 244) rfl rfl rfl rfl rfl ?_
                          refine r_const (pc' := 170) rfl rfl ?_
                          refine r_iload (pc' := 171) rfl rfl rfl ?_
                          refine r_imul (pc' := 172) rfl rfl ?_
                          refine r_iload (pc' := 173) rfl rfl rfl ?_
                          refine r_iadd (pc' := 174) rfl rfl ?_
                          refine r_iload (pc' := 176) rfl rfl rfl ?_
                          refine r_iadd (pc' := 177) rfl rfl ?_
                          refine r_aldv (pc' := 178) (v := (S 244 (((24 * f) + i) + k))) 96 rfl rfl rfl (by omega) (cp_ox (by omega)) ?_
                          have b23 : -2147483648 ≤ S 244 (((24 * f) + i) + k) ∧ S 244 (((24 * f) + i) + k) ≤ 2147483647 := hB 244 (((24 * f) + i) + k)
                          refine r_ast (pc' := 179) 96 rfl rfl rfl (by omega) ?_
                          refine r_iinc (pc' := 182) (ls' := [some (.inr (.inr 232)), some (.inl f), some (.inl i), some (.inl t), some (.inl j), some (.inl n), some (.inl 0), some (.inl (k + 1)), some (.inl k)]) rfl rfl rfl rfl rfl ?_
                          refine r_goto (pc' := 124) rfl rfl ?_
                          refine r_forget [true, true, true, true, true, true, true, true, false] rfl ?_
                          refine r_mem (show mx_up (mx_cp S 244 (24 * f + i) 244 (24 * t + j) k) 244 (((24 * t) + j) + k) (S 244 (((24 * f) + i) + k)) = mx_cp S 244 (24 * f + i) 244 (24 * t + j) (k + 1) from by exact cp_s (by omega) rfl (by omega) rfl) ?_
                          exact ih124 (k + 1) (show (0 ≤ (k + 1) ∧ (k + 1) ≤ n) from by omega) (show (n - (k + 1)).toNat < (n - k).toNat from by omega)
                        · refine r_icmp_ge1 (pc' := 185) rfl rfl (by omega) (by omega) ?_
                          refine r_iload (pc' := 187) rfl rfl rfl ?_
                          refine q_iret rfl rfl rfl ?_
                          obtain rfl : n = k := by omega
                          have ew : w_X11_copy S f i t j n = (n, (mx_cp S 244 (24 * f + i) 244 (24 * t + j) n)) := by unfold w_X11_copy; rw [if_pos h1, if_pos h2, if_neg h4, if_neg h6, if_pos h9, if_neg h10, if_neg h11, if_neg h12, if_neg h14, if_neg h16, if_neg h17]
                          exact ⟨by rw [ew], by rw [ew], hB21⟩
          · refine r_icmp_eq0 (pc' := 53) rfl rfl (by omega) (by omega) ?_
            refine r_const (pc' := 55) rfl rfl ?_
            refine q_iret rfl rfl rfl ?_
            have ew : w_X11_copy S f i t j n = ((-15), S) := by unfold w_X11_copy; rw [if_pos h1, if_pos h2, if_neg h4, if_neg h6, if_neg h9]
            exact ⟨by rw [ew], by rw [ew], hB⟩
    · skip
      refine q_callE (pc' := 11) (w := some (.inl 0)) (S2 := S) (st' := [.inl 0]) rfl rfl rfl (bi_neg h2 (c_X11_isShelf (k := t) (S := S)  (show -2147483648 ≤ t ∧ t < 2147483648 from by omega))) (by decide) rfl rfl (Nat.le_of_ble_eq_true rfl) (fun q => absurd rfl q) rfl rfl ?_
      refine r_if_ne0 (pc' := 14) rfl rfl (by decide) (by decide) ?_
      refine r_const (pc' := 16) rfl rfl ?_
      refine q_iret rfl rfl rfl ?_
      have ew : w_X11_copy S f i t j n = ((-2), S) := by unfold w_X11_copy; rw [if_pos h1, if_neg h2]
      exact ⟨by rw [ew], by rw [ew], hB⟩
  · skip
    refine q_callE (pc' := 4) (w := some (.inl 0)) (S2 := S) (st' := [.inl 0]) rfl rfl rfl (bi_neg h1 (c_X11_isShelf (k := f) (S := S)  (show -2147483648 ≤ f ∧ f < 2147483648 from by omega))) (by decide) rfl rfl (Nat.le_of_ble_eq_true rfl) (fun q => absurd rfl q) rfl rfl ?_
    refine r_if_eq1 (pc' := 14) rfl rfl (by decide) (by decide) ?_
    refine r_const (pc' := 16) rfl rfl ?_
    refine q_iret rfl rfl rfl ?_
    have ew : w_X11_copy S f i t j n = ((-2), S) := by unfold w_X11_copy; rw [if_neg h1]
    exact ⟨by rw [ew], by rw [ew], hB⟩
