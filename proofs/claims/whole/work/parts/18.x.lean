/-- the greatest of 0 and a row -/
def mxs (g : Int → Int) (n : Int) : Int := fo (fun kk s => mx_max s (g kk)) 0 n.toNat
theorem mxs_s {g : Int → Int} {k : Int} (h : 0 ≤ k) : mxs g (k + 1) = mx_max (mxs g k) (g k) := fo_s h
theorem mxs_cg {g h : Int → Int} (n : Int) (e : ∀ k, 0 ≤ k → k < n → g k = h k) : mxs g n = mxs h n := fo_cg n (fun k s h0 h1 => by rw [e k h0 h1])
theorem mxs_0 (g : Int → Int) : ∀ n : Nat, 0 ≤ mxs g n
  | 0 => Int.le_refl _
  | n + 1 => by rw [show ((n + 1 : Nat) : Int) = (n : Int) + 1 from rfl, mxs_s (by omega)]; exact Int.le_trans (mxs_0 g n) (mx_max_b _ _).2.1
theorem mxs_u {g : Int → Int} {m : Int} (hm : 0 ≤ m) : ∀ n : Nat, (∀ k, 0 ≤ k → k < (n : Int) → g k ≤ m) → mxs g n ≤ m
  | 0, _ => hm
  | n + 1, h => by
    rw [show ((n + 1 : Nat) : Int) = (n : Int) + 1 from rfl, mxs_s (by omega)]
    have h1 := mxs_u hm n (fun k h0 h1 => h k h0 (by omega))
    have h2 := h n (by omega) (by omega)
    rcases (mx_max_b (mxs g n) (g n)).1 with q | q <;> omega
theorem mxs_n {g : Int → Int} {n : Int} (h : 0 ≤ n) : 0 ≤ mxs g n := by
  obtain ⟨m, rfl⟩ := Int.eq_ofNat_of_zero_le h
  exact mxs_0 g m
theorem sm_bi {p : Int → Prop} {n : Int} (h : 0 ≤ n) : 0 ≤ sm (fun kk => bi (p kk)) n ∧ sm (fun kk => bi (p kk)) n ≤ n := by
  obtain ⟨m, rfl⟩ := Int.eq_ofNat_of_zero_le h
  have := sm_b (g := fun kk => bi (p kk)) (n := m) (m := 1) (fun k _ _ => by rcases bi_r (p k) with q | q <;> (show 0 ≤ bi (p k) ∧ bi (p k) ≤ 1; omega)) m (Nat.le_refl _)
  omega
/-- the gates' ends -/
def ends (a b : Int) : Int := mx_or (mx_shl 1 a) (mx_shl 1 b)
theorem fo_fix {α : Type} {f : α → α} {a : α} {n m : Nat} (h : f (fo (fun _ r => f r) a n) = fo (fun _ r => f r) a n) (hm : n ≤ m) : fo (fun _ r => f r) a m = fo (fun _ r => f r) a n := by
  induction hm with
  | refl => rfl
  | step _ ih => show f (fo (fun _ r => f r) a _) = _; rw [ih, h]
theorem bs7 {p : Int → Prop} {n : Int} (h : 0 ≤ n ∧ n ≤ 7) : 0 ≤ bs p n ∧ bs p n < 128 := by
  obtain ⟨m, rfl⟩ := Int.eq_ofNat_of_zero_le h.1
  have q := bs_u (p := p) (n := m) (by omega)
  have : 2 ^ m ≤ 2 ^ 7 := Nat.pow_le_pow_right (by omega) (by omega)
  omega
theorem bs8 {p : Int → Prop} {n : Int} (h : 0 ≤ n ∧ n ≤ 8) : 0 ≤ bs p n ∧ bs p n < 256 := by
  obtain ⟨m, rfl⟩ := Int.eq_ofNat_of_zero_le h.1
  have q := bs_u (p := p) (n := m) (by omega)
  have : 2 ^ m ≤ 2 ^ 8 := Nat.pow_le_pow_right (by omega) (by omega)
  omega
theorem mal {S : rS} (hB : Bd S) {g q : Int} : 0 ≤ mxs (fun kk => if tb g kk then sm (fun jj => bi (tb g jj ∧ S (43 + jj) q = S (43 + kk) q)) (S 25 10) else 0) (S 25 10) ∧ mxs (fun kk => if tb g kk then sm (fun jj => bi (tb g jj ∧ S (43 + jj) q = S (43 + kk) q)) (S 25 10) else 0) (S 25 10) ≤ 8 := by
  have b0 : 0 ≤ S 25 10 ∧ S 25 10 ≤ 8 := hB 25 10
  obtain ⟨m, hm⟩ := Int.eq_ofNat_of_zero_le b0.1
  refine ⟨mxs_n b0.1, ?_⟩
  rw [hm] at b0 ⊢
  refine mxs_u (by omega) m (fun k h0 h1 => ?_)
  show (if _ then _ else _) ≤ _
  split
  · have q1 := sm_bi (p := fun jj => tb g jj ∧ S (43 + jj) q = S (43 + k) q) b0.1
    omega
  · omega
def rgt (S : rS) (g r0 : Int) : Int := fo (fun kk xx => if tb g kk ∧ mx_and xx (ends (S 38 kk) (S 39 kk)) ≠ 0 then mx_or xx (ends (S 38 kk) (S 39 kk)) else xx) r0 (S 25 6).toNat
theorem c_X3_fieldsOf {t : Int} {S : rS} (hB : Bd S) (h_t : -2147483648 ≤ t ∧ t < 2147483648) : CS 1 144 [.inr (.inr 25), .inl t] S (fun r' S' => r' = some (.inl (bs (fun kk => S 27 kk = t) (S 25 0))) ∧ S' = S) := by
  refine RS.beg (ls := [some (.inr (.inr 25)), some (.inl t), none, none]) rfl rfl rfl rfl rfl ?_
  have b0 : 0 ≤ S 25 0 ∧ S 25 0 ≤ 7 := hB 25 0
  refine r_const (pc' := 1) rfl rfl ?_
  refine r_istore (pc' := 2) (ls' := [some (.inr (.inr 25)), some (.inl t), some (.inl 0), none]) rfl rfl rfl rfl ?_
  refine r_const (pc' := 3) rfl rfl ?_
  refine r_istore (pc' := 4) (ls' := [some (.inr (.inr 25)), some (.inl t), some (.inl 0), some (.inl 0)]) rfl rfl rfl rfl ?_
  refine r_while (α := Int × Int) (fun z' => [some (.inr (.inr 25)), some (.inl t), some (.inl z'.2), some (.inl z'.1)]) (fun z' => S) (fun z' => (0 ≤ z'.1 ∧ z'.1 ≤ S 25 0) ∧ (z'.2 = bs (fun kk => S 27 kk = t) z'.1)) (fun z' => (S 25 0 - z'.1).toNat) ?_ (0, 0) (show (0 ≤ (0 : Int) ∧ (0 : Int) ≤ S 25 0) ∧ ((0 : Int) = bs (fun kk => S 27 kk = t) (0 : Int)) from by exact ⟨by omega, rfl⟩)
  rintro ⟨f, s⟩ hI' ih4
  have hI' : (0 ≤ f ∧ f ≤ S 25 0) ∧ (s = bs (fun kk => S 27 kk = t) f) := hI'
  obtain ⟨i1, i2⟩ := hI'
  show RS _ _ _ _ [some (.inr (.inr 25)), some (.inl t), some (.inl s), some (.inl f)] [] S
  have b1 : 0 ≤ S 25 0 ∧ S 25 0 ≤ 7 := hB 25 0
  refine r_iload (pc' := 5) rfl rfl rfl ?_
  refine r_aload (pc' := 6) rfl rfl rfl ?_
  refine r_getv (pc' := 9) (v := (S 25 0)) rfl rfl (Or.inl rfl) rfl rfl ?_
  by_cases h2 : f < (S 25 0)
  · refine r_icmp_ge0 (pc' := 12) rfl rfl (by omega) (by omega) ?_
    refine r_aload (pc' := 13) rfl rfl rfl ?_
    refine r_getr (pc' := 16) (v := 27) rfl rfl rfl rfl rfl ?_
    refine r_iload (pc' := 17) rfl rfl rfl ?_
    refine r_aldv (pc' := 18) (v := (S 27 f)) 7 rfl rfl rfl (by omega) rfl ?_
    have b3 : 0 ≤ S 27 f ∧ S 27 f ≤ 3 := hB 27 f
    refine r_iload (pc' := 19) rfl rfl rfl ?_
    by_cases h4 : (S 27 f) = t
    · refine r_icmp_ne0 (pc' := 22) rfl rfl (by omega) (by omega) ?_
      refine r_iload (pc' := 23) rfl rfl rfl ?_
      refine r_const (pc' := 24) rfl rfl ?_
      refine r_iload (pc' := 25) rfl rfl rfl ?_
      refine r_ishl (pc' := 26) rfl rfl ?_
      have b5 := mx_shl_r 1 f
      refine r_ior (pc' := 27) rfl rfl ?_
      have b6 := mx_or_r s (mx_shl 1 f)
      refine r_istore (pc' := 28) (ls' := [some (.inr (.inr 25)), some (.inl t), some (.inl (mx_or s (mx_shl 1 f))), some (.inl f)]) rfl rfl rfl rfl ?_
      refine r_iinc (pc' := 31) (ls' := [some (.inr (.inr 25)), some (.inl t), some (.inl (mx_or s (mx_shl 1 f))), some (.inl (f + 1))]) rfl rfl rfl rfl rfl ?_
      refine r_goto (pc' := 4) rfl rfl ?_
      exact ih4 ((f + 1), (mx_or s (mx_shl 1 f))) (show (0 ≤ (f + 1) ∧ (f + 1) ≤ S 25 0) ∧ ((mx_or s (mx_shl 1 f)) = bs (fun kk => S 27 kk = t) (f + 1)) from by exact ⟨by omega, by rw [i2]; first | exact (bs_t (by omega) (by first | assumption | (simp only [*]; done))).symm | exact (bs_f (by omega) (by first | assumption | (simp only [*]; done))).symm⟩) (show (S 25 0 - (f + 1)).toNat < (S 25 0 - f).toNat from by omega)
    · refine r_icmp_ne1 (pc' := 28) rfl rfl (by omega) (by omega) ?_
      refine r_iinc (pc' := 31) (ls' := [some (.inr (.inr 25)), some (.inl t), some (.inl s), some (.inl (f + 1))]) rfl rfl rfl rfl rfl ?_
      refine r_goto (pc' := 4) rfl rfl ?_
      exact ih4 ((f + 1), s) (show (0 ≤ (f + 1) ∧ (f + 1) ≤ S 25 0) ∧ (s = bs (fun kk => S 27 kk = t) (f + 1)) from by exact ⟨by omega, by rw [i2]; first | exact (bs_t (by omega) (by first | assumption | (simp only [*]; done))).symm | exact (bs_f (by omega) (by first | assumption | (simp only [*]; done))).symm⟩) (show (S 25 0 - (f + 1)).toNat < (S 25 0 - f).toNat from by omega)
  · refine r_icmp_ge1 (pc' := 34) rfl rfl (by omega) (by omega) ?_
    refine r_iload (pc' := 35) rfl rfl rfl ?_
    refine q_iret rfl rfl rfl ?_
    obtain rfl : f = S 25 0 := by omega
    exact ⟨by rw [i2], rfl⟩
theorem c_X3_alike {g : Int} {q : Int} {c : Int} {S : rS} (hB : Bd S) (h_g : 0 ≤ g ∧ g < 256) (h_q : 0 ≤ q ∧ q < 8) (h_c : -2147483648 ≤ c ∧ c < 2147483648) : CS 1 143 [.inr (.inr 25), .inl g, .inl q, .inl c] S (fun r' S' => r' = some (.inl (sm (fun kk => bi (tb g kk ∧ S (43 + kk) q = c)) (S 25 10))) ∧ S' = S) := by
  refine RS.beg (ls := [some (.inr (.inr 25)), some (.inl g), some (.inl q), some (.inl c), none, none]) rfl rfl rfl rfl rfl ?_
  have b0 : 0 ≤ S 25 10 ∧ S 25 10 ≤ 8 := hB 25 10
  refine r_const (pc' := 1) rfl rfl ?_
  refine r_istore (pc' := 3) (ls' := [some (.inr (.inr 25)), some (.inl g), some (.inl q), some (.inl c), some (.inl 0), none]) rfl rfl rfl rfl ?_
  refine r_const (pc' := 4) rfl rfl ?_
  refine r_istore (pc' := 6) (ls' := [some (.inr (.inr 25)), some (.inl g), some (.inl q), some (.inl c), some (.inl 0), some (.inl 0)]) rfl rfl rfl rfl ?_
  refine r_while (α := Int × Int) (fun z' => [some (.inr (.inr 25)), some (.inl g), some (.inl q), some (.inl c), some (.inl z'.2), some (.inl z'.1)]) (fun z' => S) (fun z' => (0 ≤ z'.1 ∧ z'.1 ≤ S 25 10) ∧ (z'.2 = sm (fun kk => bi (tb g kk ∧ S (43 + kk) q = c)) z'.1)) (fun z' => (S 25 10 - z'.1).toNat) ?_ (0, 0) (show (0 ≤ (0 : Int) ∧ (0 : Int) ≤ S 25 10) ∧ ((0 : Int) = sm (fun kk => bi (tb g kk ∧ S (43 + kk) q = c)) (0 : Int)) from by exact ⟨by omega, rfl⟩)
  rintro ⟨f, s⟩ hI' ih6
  have hI' : (0 ≤ f ∧ f ≤ S 25 10) ∧ (s = sm (fun kk => bi (tb g kk ∧ S (43 + kk) q = c)) f) := hI'
  obtain ⟨i1, i2⟩ := hI'
  show RS _ _ _ _ [some (.inr (.inr 25)), some (.inl g), some (.inl q), some (.inl c), some (.inl s), some (.inl f)] [] S
  have b1 : 0 ≤ S 25 10 ∧ S 25 10 ≤ 8 := hB 25 10
  refine r_iload (pc' := 8) rfl rfl rfl ?_
  refine r_aload (pc' := 9) rfl rfl rfl ?_
  refine r_getv (pc' := 12) (v := (S 25 10)) rfl rfl (Or.inl rfl) rfl rfl ?_
  by_cases h2 : f < (S 25 10)
  · refine r_icmp_ge0 (pc' := 15) rfl rfl (by omega) (by omega) ?_
    refine r_iload (pc' := 16) rfl rfl rfl ?_
    refine r_iload (pc' := 18) rfl rfl rfl ?_
    refine r_ishr (pc' := 19) rfl rfl ?_
    have b3 := mx_shr_r g f
    refine r_const (pc' := 20) rfl rfl ?_
    refine r_iand (pc' := 21) rfl rfl ?_
    have b4 := mx_and_r (mx_shr g f) 1
    refine r_const (pc' := 22) rfl rfl ?_
    by_cases h5 : tb g f
    · refine r_icmp_ne0 (pc' := 25) rfl rfl (by omega) ((b_tst (by omega)).mpr h5) ?_
      refine r_aload (pc' := 26) rfl rfl rfl ?_
      refine r_getr (pc' := 29) (v := 42) rfl rfl rfl rfl rfl ?_
      refine r_iload (pc' := 31) rfl rfl rfl ?_
      refine r_aald (pc' := 32) (v := (43 + f)) 102008 rfl rfl rfl rfl (by omega) rfl ?_
      refine r_iload (pc' := 33) rfl rfl rfl ?_
      refine r_aldv (pc' := 34) (v := (S (43 + f) q)) 8 rfl rfl (shr_43 (by omega)) (by omega) rfl ?_
      have b6 : 0 ≤ S (43 + f) q ∧ S (43 + f) q ≤ 25 := bdr_43 hB (by omega) q
      refine r_iload (pc' := 35) rfl rfl rfl ?_
      by_cases h7 : (S (43 + f) q) = c
      · refine r_icmp_ne0 (pc' := 38) rfl rfl (by omega) (by omega) ?_
        refine r_iinc (pc' := 41) (ls' := [some (.inr (.inr 25)), some (.inl g), some (.inl q), some (.inl c), some (.inl (s + 1)), some (.inl f)]) rfl rfl rfl rfl rfl ?_
        refine r_iinc (pc' := 44) (ls' := [some (.inr (.inr 25)), some (.inl g), some (.inl q), some (.inl c), some (.inl (s + 1)), some (.inl (f + 1))]) rfl rfl rfl rfl rfl ?_
        refine r_goto (pc' := 6) rfl rfl ?_
        exact ih6 ((f + 1), (s + 1)) (show (0 ≤ (f + 1) ∧ (f + 1) ≤ S 25 10) ∧ ((s + 1) = sm (fun kk => bi (tb g kk ∧ S (43 + kk) q = c)) (f + 1)) from by exact ⟨by omega, by rw [i2, sm_s (by omega)]; rw [bi_1 ⟨h5, h7⟩]⟩) (show (S 25 10 - (f + 1)).toNat < (S 25 10 - f).toNat from by omega)
      · refine r_icmp_ne1 (pc' := 41) rfl rfl (by omega) (by omega) ?_
        refine r_iinc (pc' := 44) (ls' := [some (.inr (.inr 25)), some (.inl g), some (.inl q), some (.inl c), some (.inl s), some (.inl (f + 1))]) rfl rfl rfl rfl rfl ?_
        refine r_goto (pc' := 6) rfl rfl ?_
        exact ih6 ((f + 1), s) (show (0 ≤ (f + 1) ∧ (f + 1) ≤ S 25 10) ∧ (s = sm (fun kk => bi (tb g kk ∧ S (43 + kk) q = c)) (f + 1)) from by exact ⟨by omega, by rw [i2, sm_s (by omega)]; rw [bi_0 (fun q => absurd q.2 h7), Int.add_zero]⟩) (show (S 25 10 - (f + 1)).toNat < (S 25 10 - f).toNat from by omega)
    · refine r_icmp_ne1 (pc' := 41) rfl rfl (by omega) (fun q => h5 ((b_tst (by omega)).mp q)) ?_
      refine r_iinc (pc' := 44) (ls' := [some (.inr (.inr 25)), some (.inl g), some (.inl q), some (.inl c), some (.inl s), some (.inl (f + 1))]) rfl rfl rfl rfl rfl ?_
      refine r_goto (pc' := 6) rfl rfl ?_
      exact ih6 ((f + 1), s) (show (0 ≤ (f + 1) ∧ (f + 1) ≤ S 25 10) ∧ (s = sm (fun kk => bi (tb g kk ∧ S (43 + kk) q = c)) (f + 1)) from by exact ⟨by omega, by rw [i2, sm_s (by omega)]; rw [bi_0 (fun q => absurd q.1 h5), Int.add_zero]⟩) (show (S 25 10 - (f + 1)).toNat < (S 25 10 - f).toNat from by omega)
  · refine r_icmp_ge1 (pc' := 47) rfl rfl (by omega) (by omega) ?_
    refine r_iload (pc' := 49) rfl rfl rfl ?_
    refine q_iret rfl rfl rfl ?_
    obtain rfl : f = S 25 10 := by omega
    exact ⟨by rw [i2], rfl⟩
theorem c_X3_mostAlike {g : Int} {q : Int} {S : rS} (hB : Bd S) (h_g : 0 ≤ g ∧ g < 256) (h_q : 0 ≤ q ∧ q < 8) : CS 2 150 [.inr (.inr 25), .inl g, .inl q] S (fun r' S' => r' = some (.inl (mxs (fun kk => if tb g kk then sm (fun jj => bi (tb g jj ∧ S (43 + jj) q = S (43 + kk) q)) (S 25 10) else 0) (S 25 10))) ∧ S' = S) := by
  refine RS.beg (ls := [some (.inr (.inr 25)), some (.inl g), some (.inl q), none, none]) rfl rfl rfl rfl rfl ?_
  have b0 : 0 ≤ S 25 10 ∧ S 25 10 ≤ 8 := hB 25 10
  refine r_const (pc' := 1) rfl rfl ?_
  refine r_istore (pc' := 2) (ls' := [some (.inr (.inr 25)), some (.inl g), some (.inl q), some (.inl 0), none]) rfl rfl rfl rfl ?_
  refine r_const (pc' := 3) rfl rfl ?_
  refine r_istore (pc' := 5) (ls' := [some (.inr (.inr 25)), some (.inl g), some (.inl q), some (.inl 0), some (.inl 0)]) rfl rfl rfl rfl ?_
  refine r_while (α := Int × Int) (fun z' => [some (.inr (.inr 25)), some (.inl g), some (.inl q), some (.inl z'.2), some (.inl z'.1)]) (fun z' => S) (fun z' => (0 ≤ z'.1 ∧ z'.1 ≤ S 25 10) ∧ (0 ≤ z'.2 ∧ z'.2 ≤ 8) ∧ (z'.2 = mxs (fun kk => if tb g kk then sm (fun jj => bi (tb g jj ∧ S (43 + jj) q = S (43 + kk) q)) (S 25 10) else 0) z'.1)) (fun z' => (S 25 10 - z'.1).toNat) ?_ (0, 0) (show (0 ≤ (0 : Int) ∧ (0 : Int) ≤ S 25 10) ∧ (0 ≤ (0 : Int) ∧ (0 : Int) ≤ 8) ∧ ((0 : Int) = mxs (fun kk => if tb g kk then sm (fun jj => bi (tb g jj ∧ S (43 + jj) q = S (43 + kk) q)) (S 25 10) else 0) (0 : Int)) from by exact ⟨by omega, by omega, rfl⟩)
  rintro ⟨f, s⟩ hI' ih5
  have hI' : (0 ≤ f ∧ f ≤ S 25 10) ∧ (0 ≤ s ∧ s ≤ 8) ∧ (s = mxs (fun kk => if tb g kk then sm (fun jj => bi (tb g jj ∧ S (43 + jj) q = S (43 + kk) q)) (S 25 10) else 0) f) := hI'
  obtain ⟨i1, i3, i2⟩ := hI'
  show RS _ _ _ _ [some (.inr (.inr 25)), some (.inl g), some (.inl q), some (.inl s), some (.inl f)] [] S
  have b1 : 0 ≤ S 25 10 ∧ S 25 10 ≤ 8 := hB 25 10
  refine r_iload (pc' := 7) rfl rfl rfl ?_
  refine r_aload (pc' := 8) rfl rfl rfl ?_
  refine r_getv (pc' := 11) (v := (S 25 10)) rfl rfl (Or.inl rfl) rfl rfl ?_
  by_cases h2 : f < (S 25 10)
  · refine r_icmp_ge0 (pc' := 14) rfl rfl (by omega) (by omega) ?_
    refine r_iload (pc' := 15) rfl rfl rfl ?_
    refine r_iload (pc' := 17) rfl rfl rfl ?_
    refine r_ishr (pc' := 18) rfl rfl ?_
    have b3 := mx_shr_r g f
    refine r_const (pc' := 19) rfl rfl ?_
    refine r_iand (pc' := 20) rfl rfl ?_
    have b4 := mx_and_r (mx_shr g f) 1
    refine r_const (pc' := 21) rfl rfl ?_
    by_cases h5 : tb g f
    · refine r_icmp_ne0 (pc' := 24) rfl rfl (by omega) ((b_tst (by omega)).mpr h5) ?_
      refine r_iload (pc' := 25) rfl rfl rfl ?_
      refine r_aload (pc' := 26) rfl rfl rfl ?_
      refine r_iload (pc' := 27) rfl rfl rfl ?_
      refine r_iload (pc' := 28) rfl rfl rfl ?_
      refine r_aload (pc' := 29) rfl rfl rfl ?_
      refine r_getr (pc' := 32) (v := 42) rfl rfl rfl rfl rfl ?_
      refine r_iload (pc' := 34) rfl rfl rfl ?_
      refine r_aald (pc' := 35) (v := (43 + f)) 102008 rfl rfl rfl rfl (by omega) rfl ?_
      refine r_iload (pc' := 36) rfl rfl rfl ?_
      refine r_aldv (pc' := 37) (v := (S (43 + f) q)) 8 rfl rfl (shr_43 (by omega)) (by omega) rfl ?_
      have b6 : 0 ≤ S (43 + f) q ∧ S (43 + f) q ≤ 25 := bdr_43 hB (by omega) q
      refine q_callE (pc' := 40) (w := some (.inl (sm (fun kk => bi (tb g kk ∧ S (43 + kk) q = (S (43 + f) q))) (S 25 10)))) (S2 := S) (st' := [.inl (sm (fun kk => bi (tb g kk ∧ S (43 + kk) q = (S (43 + f) q))) (S 25 10)), .inl s]) rfl rfl rfl (c_X3_alike (g := g) (q := q) (c := (S (43 + f) q)) (S := S) hB (show 0 ≤ g ∧ g < 256 from by omega) (show 0 ≤ q ∧ q < 8 from by omega) (show -2147483648 ≤ (S (43 + f) q) ∧ (S (43 + f) q) < 2147483648 from by omega)) (by decide) rfl rfl (Nat.le_of_ble_eq_true rfl) (fun _ _ => ⟨_, _, rfl, rfl⟩) rfl rfl ?_
      have b7 : 0 ≤ (sm (fun kk => bi (tb g kk ∧ S (43 + kk) q = (S (43 + f) q))) (S 25 10)) ∧ (sm (fun kk => bi (tb g kk ∧ S (43 + kk) q = (S (43 + f) q))) (S 25 10)) ≤ 8 := by have q1 := sm_bi (p := fun kk => tb g kk ∧ S (43 + kk) q = (S (43 + f) q)) (show 0 ≤ S 25 10 from (hB 25 10).1); have q2 : 0 ≤ S 25 10 ∧ S 25 10 ≤ 8 := hB 25 10; omega
      refine r_max (pc' := 43) rfl rfl ⟨by omega, by decide⟩ ?_
      have b8 := mx_max_b s (sm (fun kk => bi (tb g kk ∧ S (43 + kk) q = (S (43 + f) q))) (S 25 10))
      refine r_istore (pc' := 44) (ls' := [some (.inr (.inr 25)), some (.inl g), some (.inl q), some (.inl (mx_max s (sm (fun kk => bi (tb g kk ∧ S (43 + kk) q = (S (43 + f) q))) (S 25 10)))), some (.inl f)]) rfl rfl rfl rfl ?_
      refine r_iinc (pc' := 47) (ls' := [some (.inr (.inr 25)), some (.inl g), some (.inl q), some (.inl (mx_max s (sm (fun kk => bi (tb g kk ∧ S (43 + kk) q = (S (43 + f) q))) (S 25 10)))), some (.inl (f + 1))]) rfl rfl rfl rfl rfl ?_
      refine r_goto (pc' := 5) rfl rfl ?_
      exact ih5 ((f + 1), (mx_max s (sm (fun kk => bi (tb g kk ∧ S (43 + kk) q = (S (43 + f) q))) (S 25 10)))) (show (0 ≤ (f + 1) ∧ (f + 1) ≤ S 25 10) ∧ (0 ≤ (mx_max s (sm (fun kk => bi (tb g kk ∧ S (43 + kk) q = (S (43 + f) q))) (S 25 10))) ∧ (mx_max s (sm (fun kk => bi (tb g kk ∧ S (43 + kk) q = (S (43 + f) q))) (S 25 10))) ≤ 8) ∧ ((mx_max s (sm (fun kk => bi (tb g kk ∧ S (43 + kk) q = (S (43 + f) q))) (S 25 10))) = mxs (fun kk => if tb g kk then sm (fun jj => bi (tb g jj ∧ S (43 + jj) q = S (43 + kk) q)) (S 25 10) else 0) (f + 1)) from by exact ⟨by omega, by omega, by rw [mxs_s (by omega), ← i2]; rw [if_pos h5]⟩) (show (S 25 10 - (f + 1)).toNat < (S 25 10 - f).toNat from by omega)
    · refine r_icmp_ne1 (pc' := 44) rfl rfl (by omega) (fun q => h5 ((b_tst (by omega)).mp q)) ?_
      refine r_iinc (pc' := 47) (ls' := [some (.inr (.inr 25)), some (.inl g), some (.inl q), some (.inl s), some (.inl (f + 1))]) rfl rfl rfl rfl rfl ?_
      refine r_goto (pc' := 5) rfl rfl ?_
      exact ih5 ((f + 1), s) (show (0 ≤ (f + 1) ∧ (f + 1) ≤ S 25 10) ∧ (0 ≤ s ∧ s ≤ 8) ∧ (s = mxs (fun kk => if tb g kk then sm (fun jj => bi (tb g jj ∧ S (43 + jj) q = S (43 + kk) q)) (S 25 10) else 0) (f + 1)) from by exact ⟨by omega, by omega, by rw [mxs_s (by omega), ← i2]; rw [if_neg h5]; unfold mx_max; rw [if_neg (by omega)]⟩) (show (S 25 10 - (f + 1)).toNat < (S 25 10 - f).toNat from by omega)
  · refine r_icmp_ge1 (pc' := 50) rfl rfl (by omega) (by omega) ?_
    refine r_iload (pc' := 51) rfl rfl rfl ?_
    refine q_iret rfl rfl rfl ?_
    obtain rfl : f = S 25 10 := by omega
    exact ⟨by rw [i2], rfl⟩
theorem c_X3_reachedBy {g : Int} {a : Int} {S : rS} (hB : Bd S) (h_g : 0 ≤ g ∧ g < 512) (h_a : 0 ≤ a ∧ a < 7) : CS 1 152 [.inr (.inr 25), .inl g, .inl a] S (fun r' S' => r' = some (.inl (fo (fun _ xx => rgt S g xx) (mx_shl 1 a) (S 25 0 - 1).toNat)) ∧ S' = S) := by
  refine RS.beg (ls := [some (.inr (.inr 25)), some (.inl g), some (.inl a), none, none, none, none, none]) rfl rfl rfl rfl rfl ?_
  have b0 : 0 ≤ S 25 0 ∧ S 25 0 ≤ 7 := hB 25 0
  have b0 : 0 ≤ S 25 6 ∧ S 25 6 ≤ 9 := hB 25 6
  have b8 : 0 ≤ mx_shl 1 a ∧ mx_shl 1 a < 128 := shl_u 7 (by omega) h_a
  refine r_const (pc' := 1) rfl rfl ?_
  refine r_iload (pc' := 2) rfl rfl rfl ?_
  refine r_ishl (pc' := 3) rfl rfl ?_
  have b1 := mx_shl_r 1 a
  refine r_istore (pc' := 4) (ls' := [some (.inr (.inr 25)), some (.inl g), some (.inl a), some (.inl (mx_shl 1 a)), none, none, none, none]) rfl rfl rfl rfl ?_
  refine r_const (pc' := 5) rfl rfl ?_
  refine r_istore (pc' := 7) (ls' := [some (.inr (.inr 25)), some (.inl g), some (.inl a), some (.inl (mx_shl 1 a)), some (.inl 1), none, none, none]) rfl rfl rfl rfl ?_
  refine r_while (α := Int × Int) (fun z' => [some (.inr (.inr 25)), some (.inl g), some (.inl a), some (.inl z'.2), some (.inl z'.1), none, none, none]) (fun z' => S) (fun z' => (1 ≤ z'.1) ∧ (0 ≤ z'.2 ∧ z'.2 < 128) ∧ (z'.2 = fo (fun _ xx => rgt S g xx) (mx_shl 1 a) (z'.1 - 1).toNat) ∧ (z'.1 ≤ S 25 0 ∨ z'.1 = 1)) (fun z' => (S 25 0 - z'.1).toNat) ?_ (1, (mx_shl 1 a)) (show (1 ≤ (1 : Int)) ∧ (0 ≤ (mx_shl 1 a) ∧ (mx_shl 1 a) < 128) ∧ ((mx_shl 1 a) = fo (fun _ xx => rgt S g xx) (mx_shl 1 a) ((1 : Int) - 1).toNat) ∧ ((1 : Int) ≤ S 25 0 ∨ (1 : Int) = 1) from by exact ⟨by omega, b8, rfl, Or.inr rfl⟩)
  rintro ⟨n, r⟩ hI' ih7
  have hI' : (1 ≤ n) ∧ (0 ≤ r ∧ r < 128) ∧ (r = fo (fun _ xx => rgt S g xx) (mx_shl 1 a) (n - 1).toNat) ∧ (n ≤ S 25 0 ∨ n = 1) := hI'
  obtain ⟨i1, i3, i2, i4⟩ := hI'
  show RS _ _ _ _ [some (.inr (.inr 25)), some (.inl g), some (.inl a), some (.inl r), some (.inl n), none, none, none] [] S
  have b2 : 0 ≤ S 25 0 ∧ S 25 0 ≤ 7 := hB 25 0
  refine r_iload (pc' := 9) rfl rfl rfl ?_
  refine r_aload (pc' := 10) rfl rfl rfl ?_
  refine r_getv (pc' := 13) (v := (S 25 0)) rfl rfl (Or.inl rfl) rfl rfl ?_
  by_cases h3 : n < (S 25 0)
  · refine r_icmp_ge0 (pc' := 16) rfl rfl (by omega) (by omega) ?_
    refine r_iload (pc' := 17) rfl rfl rfl ?_
    refine r_istore (pc' := 19) (ls' := [some (.inr (.inr 25)), some (.inl g), some (.inl a), some (.inl r), some (.inl n), some (.inl r), none, none]) rfl rfl rfl rfl ?_
    refine r_const (pc' := 20) rfl rfl ?_
    refine r_istore (pc' := 22) (ls' := [some (.inr (.inr 25)), some (.inl g), some (.inl a), some (.inl r), some (.inl n), some (.inl r), some (.inl 0), none]) rfl rfl rfl rfl ?_
    refine r_while (α := Int × Int) (fun z' => [some (.inr (.inr 25)), some (.inl g), some (.inl a), some (.inl z'.2), some (.inl n), some (.inl r), some (.inl z'.1), none]) (fun z' => S) (fun z' => (0 ≤ z'.1 ∧ z'.1 ≤ S 25 6) ∧ (0 ≤ z'.2 ∧ z'.2 < 128) ∧ (z'.2 = fo (fun kk xx => if tb g kk ∧ mx_and xx (ends (S 38 kk) (S 39 kk)) ≠ 0 then mx_or xx (ends (S 38 kk) (S 39 kk)) else xx) r (z'.1).toNat)) (fun z' => (S 25 6 - z'.1).toNat) ?_ (0, r) (show (0 ≤ (0 : Int) ∧ (0 : Int) ≤ S 25 6) ∧ (0 ≤ r ∧ r < 128) ∧ (r = fo (fun kk xx => if tb g kk ∧ mx_and xx (ends (S 38 kk) (S 39 kk)) ≠ 0 then mx_or xx (ends (S 38 kk) (S 39 kk)) else xx) r (0 : Int).toNat) from by exact ⟨by omega, i3, rfl⟩)
    rintro ⟨f, t⟩ hI' ih22
    have hI' : (0 ≤ f ∧ f ≤ S 25 6) ∧ (0 ≤ t ∧ t < 128) ∧ (t = fo (fun kk xx => if tb g kk ∧ mx_and xx (ends (S 38 kk) (S 39 kk)) ≠ 0 then mx_or xx (ends (S 38 kk) (S 39 kk)) else xx) r f.toNat) := hI'
    obtain ⟨i5, i6, i7⟩ := hI'
    show RS _ _ _ _ [some (.inr (.inr 25)), some (.inl g), some (.inl a), some (.inl t), some (.inl n), some (.inl r), some (.inl f), none] [] S
    have b4 : 0 ≤ S 25 6 ∧ S 25 6 ≤ 9 := hB 25 6
    refine r_iload (pc' := 24) rfl rfl rfl ?_
    refine r_aload (pc' := 25) rfl rfl rfl ?_
    refine r_getv (pc' := 28) (v := (S 25 6)) rfl rfl (Or.inl rfl) rfl rfl ?_
    by_cases h5 : f < (S 25 6)
    · refine r_icmp_ge0 (pc' := 31) rfl rfl (by omega) (by omega) ?_
      refine r_const (pc' := 32) rfl rfl ?_
      refine r_aload (pc' := 33) rfl rfl rfl ?_
      refine r_getr (pc' := 36) (v := 38) rfl rfl rfl rfl rfl ?_
      refine r_iload (pc' := 38) rfl rfl rfl ?_
      refine r_aldv (pc' := 39) (v := (S 38 f)) 9 rfl rfl rfl (by omega) rfl ?_
      have b6 : 0 ≤ S 38 f ∧ S 38 f ≤ 6 := hB 38 f
      refine r_ishl (pc' := 40) rfl rfl ?_
      have b7 := mx_shl_r 1 (S 38 f)
      refine r_const (pc' := 41) rfl rfl ?_
      refine r_aload (pc' := 42) rfl rfl rfl ?_
      refine r_getr (pc' := 45) (v := 39) rfl rfl rfl rfl rfl ?_
      refine r_iload (pc' := 47) rfl rfl rfl ?_
      refine r_aldv (pc' := 48) (v := (S 39 f)) 9 rfl rfl rfl (by omega) rfl ?_
      have b8 : 0 ≤ S 39 f ∧ S 39 f ≤ 6 := hB 39 f
      refine r_ishl (pc' := 49) rfl rfl ?_
      have b9 := mx_shl_r 1 (S 39 f)
      refine r_ior (pc' := 50) rfl rfl ?_
      have b10 := mx_or_r (mx_shl 1 (S 38 f)) (mx_shl 1 (S 39 f))
      refine r_istore (pc' := 52) (ls' := [some (.inr (.inr 25)), some (.inl g), some (.inl a), some (.inl t), some (.inl n), some (.inl r), some (.inl f), some (.inl (mx_or (mx_shl 1 (S 38 f)) (mx_shl 1 (S 39 f))))]) rfl rfl rfl rfl ?_
      refine r_iload (pc' := 53) rfl rfl rfl ?_
      refine r_iload (pc' := 55) rfl rfl rfl ?_
      refine r_ishr (pc' := 56) rfl rfl ?_
      have b11 := mx_shr_r g f
      refine r_const (pc' := 57) rfl rfl ?_
      refine r_iand (pc' := 58) rfl rfl ?_
      have b12 := mx_and_r (mx_shr g f) 1
      refine r_const (pc' := 59) rfl rfl ?_
      by_cases h13 : tb g f
      · refine r_icmp_ne0 (pc' := 62) rfl rfl (by omega) ((b_tst (by omega)).mpr h13) ?_
        refine r_iload (pc' := 63) rfl rfl rfl ?_
        refine r_iload (pc' := 65) rfl rfl rfl ?_
        refine r_iand (pc' := 66) rfl rfl ?_
        have b14 := mx_and_r t (mx_or (mx_shl 1 (S 38 f)) (mx_shl 1 (S 39 f)))
        by_cases h15 : (mx_and t (mx_or (mx_shl 1 (S 38 f)) (mx_shl 1 (S 39 f)))) = 0
        · refine r_if_eq1 (pc' := 74) rfl rfl (by omega) (by omega) ?_
          refine r_iinc (pc' := 77) (ls' := [some (.inr (.inr 25)), some (.inl g), some (.inl a), some (.inl t), some (.inl n), some (.inl r), some (.inl (f + 1)), some (.inl (mx_or (mx_shl 1 (S 38 f)) (mx_shl 1 (S 39 f))))]) rfl rfl rfl rfl rfl ?_
          refine r_goto (pc' := 22) rfl rfl ?_
          refine r_forget [true, true, true, true, true, true, true, false] rfl ?_
          exact ih22 ((f + 1), t) (show (0 ≤ (f + 1) ∧ (f + 1) ≤ S 25 6) ∧ (0 ≤ t ∧ t < 128) ∧ (t = fo (fun kk xx => if tb g kk ∧ mx_and xx (ends (S 38 kk) (S 39 kk)) ≠ 0 then mx_or xx (ends (S 38 kk) (S 39 kk)) else xx) r (f + 1).toNat) from by exact ⟨by omega, i6, by rw [fo_s (by omega), ← i7]; exact (if_neg (fun q => q.2 h15)).symm⟩) (show (S 25 6 - (f + 1)).toNat < (S 25 6 - f).toNat from by omega)
        · refine r_if_eq0 (pc' := 69) rfl rfl (by omega) (by omega) ?_
          refine r_iload (pc' := 70) rfl rfl rfl ?_
          refine r_iload (pc' := 72) rfl rfl rfl ?_
          refine r_ior (pc' := 73) rfl rfl ?_
          have b16 := mx_or_r t (mx_or (mx_shl 1 (S 38 f)) (mx_shl 1 (S 39 f)))
          refine r_istore (pc' := 74) (ls' := [some (.inr (.inr 25)), some (.inl g), some (.inl a), some (.inl (mx_or t (mx_or (mx_shl 1 (S 38 f)) (mx_shl 1 (S 39 f))))), some (.inl n), some (.inl r), some (.inl f), some (.inl (mx_or (mx_shl 1 (S 38 f)) (mx_shl 1 (S 39 f))))]) rfl rfl rfl rfl ?_
          refine r_iinc (pc' := 77) (ls' := [some (.inr (.inr 25)), some (.inl g), some (.inl a), some (.inl (mx_or t (mx_or (mx_shl 1 (S 38 f)) (mx_shl 1 (S 39 f))))), some (.inl n), some (.inl r), some (.inl (f + 1)), some (.inl (mx_or (mx_shl 1 (S 38 f)) (mx_shl 1 (S 39 f))))]) rfl rfl rfl rfl rfl ?_
          refine r_goto (pc' := 22) rfl rfl ?_
          refine r_forget [true, true, true, true, true, true, true, false] rfl ?_
          exact ih22 ((f + 1), (mx_or t (mx_or (mx_shl 1 (S 38 f)) (mx_shl 1 (S 39 f))))) (show (0 ≤ (f + 1) ∧ (f + 1) ≤ S 25 6) ∧ (0 ≤ (mx_or t (mx_or (mx_shl 1 (S 38 f)) (mx_shl 1 (S 39 f)))) ∧ (mx_or t (mx_or (mx_shl 1 (S 38 f)) (mx_shl 1 (S 39 f)))) < 128) ∧ ((mx_or t (mx_or (mx_shl 1 (S 38 f)) (mx_shl 1 (S 39 f)))) = fo (fun kk xx => if tb g kk ∧ mx_and xx (ends (S 38 kk) (S 39 kk)) ≠ 0 then mx_or xx (ends (S 38 kk) (S 39 kk)) else xx) r (f + 1).toNat) from by exact ⟨by omega, or_u 7 (by omega) i6 (or_u 7 (by omega) (shl_u 7 (by omega) (by omega)) (shl_u 7 (by omega) (by omega)) (by omega) (by omega)) (by omega) (by omega), by rw [fo_s (by omega), ← i7]; exact (if_pos ⟨h13, h15⟩).symm⟩) (show (S 25 6 - (f + 1)).toNat < (S 25 6 - f).toNat from by omega)
      · refine r_icmp_ne1 (pc' := 74) rfl rfl (by omega) (fun q => h13 ((b_tst (by omega)).mp q)) ?_
        refine r_iinc (pc' := 77) (ls' := [some (.inr (.inr 25)), some (.inl g), some (.inl a), some (.inl t), some (.inl n), some (.inl r), some (.inl (f + 1)), some (.inl (mx_or (mx_shl 1 (S 38 f)) (mx_shl 1 (S 39 f))))]) rfl rfl rfl rfl rfl ?_
        refine r_goto (pc' := 22) rfl rfl ?_
        refine r_forget [true, true, true, true, true, true, true, false] rfl ?_
        exact ih22 ((f + 1), t) (show (0 ≤ (f + 1) ∧ (f + 1) ≤ S 25 6) ∧ (0 ≤ t ∧ t < 128) ∧ (t = fo (fun kk xx => if tb g kk ∧ mx_and xx (ends (S 38 kk) (S 39 kk)) ≠ 0 then mx_or xx (ends (S 38 kk) (S 39 kk)) else xx) r (f + 1).toNat) from by exact ⟨by omega, i6, by rw [fo_s (by omega), ← i7]; exact (if_neg (fun q => absurd q.1 h13)).symm⟩) (show (S 25 6 - (f + 1)).toNat < (S 25 6 - f).toNat from by omega)
    · refine r_icmp_ge1 (pc' := 80) rfl rfl (by omega) (by omega) ?_
      refine r_iload (pc' := 81) rfl rfl rfl ?_
      refine r_iload (pc' := 83) rfl rfl rfl ?_
      by_cases h17 : t = r
      · refine r_icmp_ne0 (pc' := 86) rfl rfl (by omega) (by omega) ?_
        refine r_iload (pc' := 87) rfl rfl rfl ?_
        refine q_iret rfl rfl rfl ?_
        obtain rfl : f = S 25 6 := by omega
        exact ⟨by rw [h17, i2]; exact congrArg (fun z => some (Sum.inl z)) (fo_fix (f := fun xx => rgt S g xx) (by rw [← i2]; exact i7.symm.trans h17) (by omega)).symm, rfl⟩
      · refine r_icmp_ne1 (pc' := 88) rfl rfl (by omega) (by omega) ?_
        refine r_iinc (pc' := 91) (ls' := [some (.inr (.inr 25)), some (.inl g), some (.inl a), some (.inl t), some (.inl (n + 1)), some (.inl r), some (.inl f), none]) rfl rfl rfl rfl rfl ?_
        refine r_goto (pc' := 7) rfl rfl ?_
        refine r_forget [true, true, true, true, true, false, false, true] rfl ?_
        exact ih7 ((n + 1), t) (show (1 ≤ (n + 1)) ∧ (0 ≤ t ∧ t < 128) ∧ (t = fo (fun _ xx => rgt S g xx) (mx_shl 1 a) ((n + 1) - 1).toNat) ∧ ((n + 1) ≤ S 25 0 ∨ (n + 1) = 1) from by exact ⟨by omega, i6, by rw [show n + 1 - 1 = n - 1 + 1 by omega, fo_s (by omega), ← i2]; rw [show t = rgt S g r from i7.trans (by rw [show f.toNat = (S 25 6).toNat by omega]; rfl)], by omega⟩) (show (S 25 0 - (n + 1)).toNat < (S 25 0 - n).toNat from by omega)
  · refine r_icmp_ge1 (pc' := 94) rfl rfl (by omega) (by omega) ?_
    refine r_iload (pc' := 95) rfl rfl rfl ?_
    refine q_iret rfl rfl rfl ?_
    exact ⟨by rw [i2, show (n - 1).toNat = (S 25 0 - 1).toNat by omega], rfl⟩
