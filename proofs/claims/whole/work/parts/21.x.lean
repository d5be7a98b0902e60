theorem r_mem {d M pc : Nat} {Q : rQ} {ls : mx_L} {st : List mx_V} {S S' : rS} (h : S = S') (K : RS d M Q pc ls st S') : RS d M Q pc ls st S := by subst h; exact K
/-- a row is filled up to n -/
def fl (S : rS) (A : Int) (g : Int → Int) (n : Int) : rS := fun a j => if a = A ∧ 0 ≤ j ∧ j < n then g j else S a j
theorem fl_0 (S : rS) (A : Int) (g : Int → Int) : S = fl S A g 0 := by
  funext a j; unfold fl; rw [if_neg (by omega)]
theorem fl_s {S : rS} {A : Int} {g : Int → Int} {k v : Int} (h : 0 ≤ k) (hv : v = g k) : mx_up (fl S A g k) A k v = fl S A g (k + 1) := by
  subst hv
  funext a j; unfold mx_up fl
  by_cases h1 : a = A ∧ j = k
  · rw [if_pos h1, if_pos (by omega), h1.2]
  · rw [if_neg h1]
    by_cases h2 : a = A ∧ 0 ≤ j ∧ j < k
    · rw [if_pos h2, if_pos (by omega)]
    · rw [if_neg h2, if_neg (by omega)]
theorem fl_o {S : rS} {A : Int} {g : Int → Int} {n a j : Int} (h : ¬ a = A) : fl S A g n a j = S a j := if_neg (fun q => h q.1)
theorem fl_hi {S : rS} {A : Int} {g : Int → Int} {n a j : Int} (h : n ≤ j) : fl S A g n a j = S a j := if_neg (by omega)
theorem fl_i {S : rS} {A : Int} {g : Int → Int} {n j : Int} (h : 0 ≤ j ∧ j < n) : fl S A g n A j = g j := if_pos ⟨rfl, h⟩
theorem Bd_fl {S : rS} {A : Int} {g : Int → Int} {n : Int} (h : Bd S) (hg : ∀ k, 0 ≤ k → k < n → bd_lo A k ≤ g k ∧ g k ≤ bd_hi A k) : Bd (fl S A g n) := by
  intro a j; unfold fl
  by_cases h1 : a = A ∧ 0 ≤ j ∧ j < n
  · rw [if_pos h1]; obtain ⟨rfl, h2⟩ := h1; exact hg j h2.1 h2.2
  · rw [if_neg h1]; exact h a j
theorem cp_0 (S : rS) (a i b j : Int) : S = mx_cp S a i b j 0 := by
  funext x y; unfold mx_cp; rw [if_neg (by omega)]
theorem cp_s {S : rS} {a i b j k v i' j' : Int} (hk : 0 ≤ k) (hi : i' = i + k) (hj : j' = j + k) (hv : v = S a (i + k)) : mx_up (mx_cp S a i b j k) b j' v = mx_cp S a i b j (k + 1) := by
  subst hi; subst hj; subst hv
  funext x y; unfold mx_up mx_cp
  by_cases h1 : x = b ∧ y = j + k
  · rw [if_pos h1, if_pos (by omega), show y - j = k by omega]
  · rw [if_neg h1]
    by_cases h2 : x = b ∧ j ≤ y ∧ y < j + k
    · rw [if_pos h2, if_pos (by omega)]
    · rw [if_neg h2, if_neg (by omega)]
theorem cp_o {S : rS} {a i b j n x y : Int} (h : ¬ x = b) : mx_cp S a i b j n x y = S x y := if_neg (fun q => h q.1)
theorem cp_ox {S : rS} {a i b j n x y : Int} (h : y < j ∨ j + n ≤ y) : mx_cp S a i b j n x y = S x y := if_neg (by omega)
theorem cp_i {S : rS} {a i b j n y : Int} (h : j ≤ y ∧ y < j + n) : mx_cp S a i b j n b y = S a (i + (y - j)) := if_pos ⟨rfl, h⟩
theorem Bd_cp {S : rS} {a i b j n : Int} (h : Bd S) (hg : ∀ k, 0 ≤ k → k < n → bd_lo b (j + k) ≤ bd_lo a (i + k) ∧ bd_hi a (i + k) ≤ bd_hi b (j + k)) : Bd (mx_cp S a i b j n) := by
  intro x y; unfold mx_cp
  by_cases h1 : x = b ∧ j ≤ y ∧ y < j + n
  · rw [if_pos h1]; obtain ⟨rfl, h2⟩ := h1
    have q := hg (y - j) (by omega) (by omega)
    rw [show j + (y - j) = y by omega] at q
    have q2 := h a (i + (y - j))
    omega
  · rw [if_neg h1]; exact h x y
/-- state A becomes as state B is -/
def tks (S : rS) (A B : Int) : rS := fun a j => if a = A + 1 ∧ 0 ≤ j ∧ j < 7 then S (B + 1) j else if a = A ∧ 1 ≤ j ∧ j ≤ 5 then S B j else S a j
theorem tks_e (S : rS) (A B A1 : Int) (hA : A1 = A + 1) (g : Int → Int) (hg : g = fun k => S (B + 1) k) : mx_up (mx_up (mx_up (mx_up (mx_up (fl S A1 g 7) A 1 (S B 1)) A 2 (S B 2)) A 3 (S B 3)) A 4 (S B 4)) A 5 (S B 5) = tks S A B := by
  subst hA; subst hg
  funext a j; unfold tks mx_up fl
  by_cases h0 : a = A
  · subst h0
    rw [if_neg (show ¬ (a = a + 1 ∧ 0 ≤ j ∧ j < 7) by omega)]
    by_cases h1 : 1 ≤ j ∧ j ≤ 5
    · rw [if_pos (show a = a ∧ 1 ≤ j ∧ j ≤ 5 from ⟨rfl, h1⟩)]
      rcases (show j = 1 ∨ j = 2 ∨ j = 3 ∨ j = 4 ∨ j = 5 by omega) with h | h | h | h | h <;> subst h <;> simp <;> intro q <;> omega
    · rw [if_neg (show ¬ (a = a ∧ 1 ≤ j ∧ j ≤ 5) from fun q => h1 q.2), if_neg (by omega), if_neg (by omega), if_neg (by omega), if_neg (by omega), if_neg (by omega), if_neg (by omega)]
  · rw [if_neg (by omega), if_neg (by omega), if_neg (by omega), if_neg (by omega), if_neg (by omega)]
    by_cases h1 : a = A + 1 ∧ 0 ≤ j ∧ j < 7
    · rw [if_pos h1, if_pos h1]
    · rw [if_neg h1, if_neg h1, if_neg (by omega)]
theorem tks_o {S : rS} {A B a j : Int} (h : ¬ (a = A ∨ a = A + 1)) : tks S A B a j = S a j := by
  unfold tks; rw [if_neg (by omega), if_neg (by omega)]
theorem tks_f {S : rS} {A B j : Int} (h : 1 ≤ j ∧ j ≤ 5) : tks S A B A j = S B j := by
  unfold tks; rw [if_neg (by omega), if_pos ⟨rfl, h⟩]
theorem tks_l {S : rS} {A B A1 j : Int} (hA : A1 = A + 1) (h : 0 ≤ j ∧ j < 7) : tks S A B A1 j = S (B + 1) j := by
  subst hA; unfold tks; rw [if_pos ⟨rfl, h⟩]
/-- the bounds of a state -/
def bds (A : Int) : Prop := (∀ j, bd_lo (A + 1) j = 0 ∧ bd_hi (A + 1) j = 255) ∧ (bd_lo A 1 = 0 ∧ bd_hi A 1 = 127) ∧ (bd_lo A 2 = 0 ∧ bd_hi A 2 = 99) ∧ (bd_lo A 3 = 0 ∧ bd_hi A 3 = 999) ∧ (bd_lo A 4 = 0 ∧ bd_hi A 4 = 6) ∧ (bd_lo A 5 = 0 ∧ bd_hi A 5 = 9)
theorem bds_59 : bds 59 := ⟨fun _ => ⟨rfl, rfl⟩, ⟨rfl, rfl⟩, ⟨rfl, rfl⟩, ⟨rfl, rfl⟩, ⟨rfl, rfl⟩, ⟨rfl, rfl⟩⟩
theorem bds_63 {i : Int} (h : 0 ≤ i ∧ i < 8) : bds (63 + 2 * i) := ⟨fun j => by rw [show 63 + 2 * i + 1 = 64 + 2 * i by omega]; exact bdp_64 h j, bdp_631 h, bdp_632 h, bdp_633 h, bdp_634 h, bdp_635 h⟩
theorem bds_220 {i : Int} (h : 0 ≤ i ∧ i < 2) : bds (220 + 2 * i) := ⟨fun j => by rw [show 220 + 2 * i + 1 = 221 + 2 * i by omega]; exact bdp_221 h j, bdp_2201 h, bdp_2202 h, bdp_2203 h, bdp_2204 h, bdp_2205 h⟩
theorem Bd_tks {S : rS} {A B : Int} (h : Bd S) (hA : bds A) (hB : bds B) : Bd (tks S A B) := by
  intro a j; unfold tks
  by_cases h1 : a = A + 1 ∧ 0 ≤ j ∧ j < 7
  · rw [if_pos h1, h1.1, (hA.1 j).1, (hA.1 j).2]
    have q := h (B + 1) j
    rw [(hB.1 j).1, (hB.1 j).2] at q
    exact q
  · rw [if_neg h1]
    by_cases h2 : a = A ∧ 1 ≤ j ∧ j ≤ 5
    · rw [if_pos h2, h2.1]
      have q := h B j
      obtain ⟨_, a1, a2, a3, a4, a5⟩ := hA
      obtain ⟨_, b1, b2, b3, b4, b5⟩ := hB
      rcases (show j = 1 ∨ j = 2 ∨ j = 3 ∨ j = 4 ∨ j = 5 by omega) with h | h | h | h | h <;> subst h <;> omega
    · rw [if_neg h2]; exact h a j
theorem lsb_n : ∀ n : Nat, n < 9 → 0 ≤ mx_shl 1 n - 1 ∧ mx_shl 1 n - 1 ≤ 255 := by decide +kernel
theorem lsb {x : Int} (h : 0 ≤ x ∧ x ≤ 8) : 0 ≤ mx_shl 1 x - 1 ∧ mx_shl 1 x - 1 ≤ 255 := by
  obtain ⟨n, rfl⟩ := Int.eq_ofNat_of_zero_le h.1
  exact lsb_n n (by omega)
/-- places are taken one after the other, m at most -/
def wst (pl : Int → Int) (m : Int) : Int → Int × Int → Int × Int := fun kk z => if z.2 < m ∧ tb z.1 (pl kk) then (mx_and z.1 (mx_xor (mx_shl 1 (pl kk)) (-1)), z.2 + 1) else z
def wo (pl : Int → Int) (m a : Int) : Int := (fo (wst pl m) (a, 0) 8).1
theorem fo_stop {α : Type} {f : Int → α → α} {a z : α} {n : Nat} (h : fo f a n = z) (hs : ∀ k, f k z = z) : ∀ m : Nat, n ≤ m → fo f a m = z := by
  intro m hm
  induction hm with
  | refl => exact h
  | step _ ih => show f _ (fo f a _) = z; rw [ih]; exact hs _
theorem wo_r {pl : Int → Int} {m a : Int} (h : 0 ≤ a ∧ a < 256) : 0 ≤ wo pl m a ∧ wo pl m a < 256 := by
  have := fo_ind (f := wst pl m) (a := (a, 0)) (fun _ z => 0 ≤ z.1 ∧ z.1 < 256) h (N := 8) (fun k s _ _ hs => by
    unfold wst
    split
    · exact and_u 8 (by omega) hs (by omega)
    · exact hs) 8 (Nat.le_refl _)
  exact this
/-- what rain leaves -/
def rnl (k a r : Int) : Int := if k = 0 then wo (fun x => 7 - x) r a else if k = 1 then a else if k = 2 then wo (fun x => 7 - x) (r - 3) a else if k = 3 then wo (fun x => x) r a else a
theorem rnl_r {k a r : Int} (h : 0 ≤ a ∧ a < 256) : 0 ≤ rnl k a r ∧ rnl k a r < 256 := by
  unfold rnl
  split
  · exact wo_r h
  · split
    · exact h
    · split
      · exact wo_r h
      · split
        · exact wo_r h
        · exact h
theorem c_X1_withoutLast {a : Int} {m : Int} {S : rS} (h_a : 0 ≤ a ∧ a < 256) (h_m : -10 ≤ m ∧ m ≤ 10) : CS 1 138 [.inl a, .inl m] S (fun r' S' => r' = some (.inl (wo (fun xx => 7 - xx) m a)) ∧ S' = S) := by
  refine RS.beg (ls := [some (.inl a), some (.inl m), none, none, none]) rfl rfl rfl rfl rfl ?_
  refine r_iload (pc' := 1) rfl rfl rfl ?_
  refine r_istore (pc' := 2) (ls' := [some (.inl a), some (.inl m), some (.inl a), none, none]) rfl rfl rfl rfl ?_
  refine r_const (pc' := 3) rfl rfl ?_
  refine r_istore (pc' := 4) (ls' := [some (.inl a), some (.inl m), some (.inl a), some (.inl 0), none]) rfl rfl rfl rfl ?_
  refine r_const (pc' := 6) rfl rfl ?_
  refine r_istore (pc' := 8) (ls' := [some (.inl a), some (.inl m), some (.inl a), some (.inl 0), some (.inl 7)]) rfl rfl rfl rfl ?_
  refine r_while (α := Int × Int × Int) (fun z' => [some (.inl a), some (.inl m), some (.inl z'.1), some (.inl z'.2.1), some (.inl z'.2.2)]) (fun z' => S) (fun z' => (0 ≤ z'.1 ∧ z'.1 < 256) ∧ (0 ≤ z'.2.1 ∧ z'.2.1 ≤ 8) ∧ ((-1 ≤ z'.2.2 ∧ z'.2.2 ≤ 7) ∧ z'.2.1 ≤ 7 - z'.2.2) ∧ (fo (wst (fun xx => 7 - xx) m) (a, 0) (7 - z'.2.2).toNat = (z'.1, z'.2.1))) (fun z' => (z'.2.2 + 1).toNat) ?_ (a, 0, 7) (show (0 ≤ a ∧ a < 256) ∧ (0 ≤ (0 : Int) ∧ (0 : Int) ≤ 8) ∧ ((-1 ≤ (7 : Int) ∧ (7 : Int) ≤ 7) ∧ (0 : Int) ≤ 7 - (7 : Int)) ∧ (fo (wst (fun xx => 7 - xx) m) (a, 0) (7 - (7 : Int)).toNat = (a, (0 : Int))) from by exact ⟨by omega, by omega, by omega, rfl⟩)
  rintro ⟨r, g, p⟩ hI' ih8
  have hI' : (0 ≤ r ∧ r < 256) ∧ (0 ≤ g ∧ g ≤ 8) ∧ ((-1 ≤ p ∧ p ≤ 7) ∧ g ≤ 7 - p) ∧ (fo (wst (fun xx => 7 - xx) m) (a, 0) (7 - p).toNat = (r, g)) := hI'
  obtain ⟨i1, i3, i4, i2⟩ := hI'
  show RS _ _ _ _ [some (.inl a), some (.inl m), some (.inl r), some (.inl g), some (.inl p)] [] S
  refine r_iload (pc' := 10) rfl rfl rfl ?_
  by_cases h1 : p < 0
  · refine r_if_lt1 (pc' := 46) rfl rfl (by omega) (by omega) ?_
    refine r_iload (pc' := 47) rfl rfl rfl ?_
    refine q_iret rfl rfl rfl ?_
    exact ⟨by unfold wo; rw [show (8 : Nat) = (7 - p).toNat by omega, i2], rfl⟩
  · refine r_if_lt0 (pc' := 13) rfl rfl (by omega) (by omega) ?_
    refine r_iload (pc' := 14) rfl rfl rfl ?_
    refine r_iload (pc' := 15) rfl rfl rfl ?_
    by_cases h2 : g < m
    · refine r_icmp_ge0 (pc' := 18) rfl rfl (by omega) (by omega) ?_
      refine r_iload (pc' := 19) rfl rfl rfl ?_
      refine r_iload (pc' := 21) rfl rfl rfl ?_
      refine r_ishr (pc' := 22) rfl rfl ?_
      have b3 := mx_shr_r r p
      refine r_const (pc' := 23) rfl rfl ?_
      refine r_iand (pc' := 24) rfl rfl ?_
      have b4 := mx_and_r (mx_shr r p) 1
      refine r_const (pc' := 25) rfl rfl ?_
      by_cases h5 : tb r p
      · refine r_icmp_ne0 (pc' := 28) rfl rfl (by omega) ((b_tst (by omega)).mpr h5) ?_
        refine r_iload (pc' := 29) rfl rfl rfl ?_
        refine r_const (pc' := 30) rfl rfl ?_
        refine r_iload (pc' := 32) rfl rfl rfl ?_
        refine r_ishl (pc' := 33) rfl rfl ?_
        have b6 := mx_shl_r 1 p
        refine r_const (pc' := 34) rfl rfl ?_
        refine r_ixor (pc' := 35) rfl rfl ?_
        have b7 := mx_xor_r (mx_shl 1 p) (-1)
        refine r_iand (pc' := 36) rfl rfl ?_
        have b8 := mx_and_r r (mx_xor (mx_shl 1 p) (-1))
        have e9 : 0 ≤ mx_and r (mx_xor (mx_shl 1 p) (-1)) ∧ mx_and r (mx_xor (mx_shl 1 p) (-1)) < 256 := and_u (a := r) (b := (mx_xor (mx_shl 1 p) (-1))) 8 (by omega) (by omega) (by omega)
        refine r_istore (pc' := 37) (ls' := [some (.inl a), some (.inl m), some (.inl (mx_and r (mx_xor (mx_shl 1 p) (-1)))), some (.inl g), some (.inl p)]) rfl rfl rfl rfl ?_
        refine r_iinc (pc' := 40) (ls' := [some (.inl a), some (.inl m), some (.inl (mx_and r (mx_xor (mx_shl 1 p) (-1)))), some (.inl (g + 1)), some (.inl p)]) rfl rfl rfl rfl rfl ?_
        refine r_iinc (pc' := 43) (ls' := [some (.inl a), some (.inl m), some (.inl (mx_and r (mx_xor (mx_shl 1 p) (-1)))), some (.inl (g + 1)), some (.inl (p + (-1)))]) rfl rfl rfl rfl rfl ?_
        refine r_goto (pc' := 8) rfl rfl ?_
        exact ih8 ((mx_and r (mx_xor (mx_shl 1 p) (-1))), (g + 1), (p + (-1))) (show (0 ≤ (mx_and r (mx_xor (mx_shl 1 p) (-1))) ∧ (mx_and r (mx_xor (mx_shl 1 p) (-1))) < 256) ∧ (0 ≤ (g + 1) ∧ (g + 1) ≤ 8) ∧ ((-1 ≤ (p + (-1)) ∧ (p + (-1)) ≤ 7) ∧ (g + 1) ≤ 7 - (p + (-1))) ∧ (fo (wst (fun xx => 7 - xx) m) (a, 0) (7 - (p + (-1))).toNat = ((mx_and r (mx_xor (mx_shl 1 p) (-1))), (g + 1))) from by exact ⟨by omega, by omega, by omega, by rw [show 7 - (p + (-1)) = (7 - p) + 1 by omega, fo_s (by omega), i2]; unfold wst; show (if g < m ∧ tb r (7 - (7 - p)) then (mx_and r (mx_xor (mx_shl 1 (7 - (7 - p))) (-1)), g + 1) else (r, g)) = _; rw [show 7 - (7 - p) = p by omega]; exact if_pos ⟨by omega, h5⟩⟩) (show ((p + (-1)) + 1).toNat < (p + 1).toNat from by omega)
      · refine r_icmp_ne1 (pc' := 40) rfl rfl (by omega) (fun q => h5 ((b_tst (by omega)).mp q)) ?_
        refine r_iinc (pc' := 43) (ls' := [some (.inl a), some (.inl m), some (.inl r), some (.inl g), some (.inl (p + (-1)))]) rfl rfl rfl rfl rfl ?_
        refine r_goto (pc' := 8) rfl rfl ?_
        exact ih8 (r, g, (p + (-1))) (show (0 ≤ r ∧ r < 256) ∧ (0 ≤ g ∧ g ≤ 8) ∧ ((-1 ≤ (p + (-1)) ∧ (p + (-1)) ≤ 7) ∧ g ≤ 7 - (p + (-1))) ∧ (fo (wst (fun xx => 7 - xx) m) (a, 0) (7 - (p + (-1))).toNat = (r, g)) from by exact ⟨by omega, by omega, by omega, by rw [show 7 - (p + (-1)) = (7 - p) + 1 by omega, fo_s (by omega), i2]; unfold wst; show (if g < m ∧ tb r (7 - (7 - p)) then (mx_and r (mx_xor (mx_shl 1 (7 - (7 - p))) (-1)), g + 1) else (r, g)) = _; rw [show 7 - (7 - p) = p by omega]; exact if_neg (fun q => absurd q.2 h5)⟩) (show ((p + (-1)) + 1).toNat < (p + 1).toNat from by omega)
    · refine r_icmp_ge1 (pc' := 46) rfl rfl (by omega) (by omega) ?_
      refine r_iload (pc' := 47) rfl rfl rfl ?_
      refine q_iret rfl rfl rfl ?_
      exact ⟨by unfold wo; rw [fo_stop i2 (fun k => by unfold wst; exact if_neg (by omega)) 8 (by omega)], rfl⟩
theorem c_X1_withoutFirst {a : Int} {m : Int} {S : rS} (h_a : 0 ≤ a ∧ a < 256) (h_m : -10 ≤ m ∧ m ≤ 10) : CS 1 137 [.inl a, .inl m] S (fun r' S' => r' = some (.inl (wo (fun xx => xx) m a)) ∧ S' = S) := by
  refine RS.beg (ls := [some (.inl a), some (.inl m), none, none, none]) rfl rfl rfl rfl rfl ?_
  refine r_iload (pc' := 1) rfl rfl rfl ?_
  refine r_istore (pc' := 2) (ls' := [some (.inl a), some (.inl m), some (.inl a), none, none]) rfl rfl rfl rfl ?_
  refine r_const (pc' := 3) rfl rfl ?_
  refine r_istore (pc' := 4) (ls' := [some (.inl a), some (.inl m), some (.inl a), some (.inl 0), none]) rfl rfl rfl rfl ?_
  refine r_const (pc' := 5) rfl rfl ?_
  refine r_istore (pc' := 7) (ls' := [some (.inl a), some (.inl m), some (.inl a), some (.inl 0), some (.inl 0)]) rfl rfl rfl rfl ?_
  refine r_while (α := Int × Int × Int) (fun z' => [some (.inl a), some (.inl m), some (.inl z'.1), some (.inl z'.2.1), some (.inl z'.2.2)]) (fun z' => S) (fun z' => (0 ≤ z'.1 ∧ z'.1 < 256) ∧ (0 ≤ z'.2.1 ∧ z'.2.1 ≤ 8) ∧ ((0 ≤ z'.2.2 ∧ z'.2.2 ≤ 8) ∧ z'.2.1 ≤ z'.2.2) ∧ (fo (wst (fun xx => xx) m) (a, 0) (z'.2.2).toNat = (z'.1, z'.2.1))) (fun z' => (8 - z'.2.2).toNat) ?_ (a, 0, 0) (show (0 ≤ a ∧ a < 256) ∧ (0 ≤ (0 : Int) ∧ (0 : Int) ≤ 8) ∧ ((0 ≤ (0 : Int) ∧ (0 : Int) ≤ 8) ∧ (0 : Int) ≤ (0 : Int)) ∧ (fo (wst (fun xx => xx) m) (a, 0) (0 : Int).toNat = (a, (0 : Int))) from by exact ⟨by omega, by omega, by omega, rfl⟩)
  rintro ⟨r, g, p⟩ hI' ih7
  have hI' : (0 ≤ r ∧ r < 256) ∧ (0 ≤ g ∧ g ≤ 8) ∧ ((0 ≤ p ∧ p ≤ 8) ∧ g ≤ p) ∧ (fo (wst (fun xx => xx) m) (a, 0) p.toNat = (r, g)) := hI'
  obtain ⟨i1, i3, i4, i2⟩ := hI'
  show RS _ _ _ _ [some (.inl a), some (.inl m), some (.inl r), some (.inl g), some (.inl p)] [] S
  refine r_iload (pc' := 9) rfl rfl rfl ?_
  refine r_const (pc' := 11) rfl rfl ?_
  by_cases h1 : p < 8
  · refine r_icmp_ge0 (pc' := 14) rfl rfl (by omega) (by omega) ?_
    refine r_iload (pc' := 15) rfl rfl rfl ?_
    refine r_iload (pc' := 16) rfl rfl rfl ?_
    by_cases h2 : g < m
    · refine r_icmp_ge0 (pc' := 19) rfl rfl (by omega) (by omega) ?_
      refine r_iload (pc' := 20) rfl rfl rfl ?_
      refine r_iload (pc' := 22) rfl rfl rfl ?_
      refine r_ishr (pc' := 23) rfl rfl ?_
      have b3 := mx_shr_r r p
      refine r_const (pc' := 24) rfl rfl ?_
      refine r_iand (pc' := 25) rfl rfl ?_
      have b4 := mx_and_r (mx_shr r p) 1
      refine r_const (pc' := 26) rfl rfl ?_
      by_cases h5 : tb r p
      · refine r_icmp_ne0 (pc' := 29) rfl rfl (by omega) ((b_tst (by omega)).mpr h5) ?_
        refine r_iload (pc' := 30) rfl rfl rfl ?_
        refine r_const (pc' := 31) rfl rfl ?_
        refine r_iload (pc' := 33) rfl rfl rfl ?_
        refine r_ishl (pc' := 34) rfl rfl ?_
        have b6 := mx_shl_r 1 p
        refine r_const (pc' := 35) rfl rfl ?_
        refine r_ixor (pc' := 36) rfl rfl ?_
        have b7 := mx_xor_r (mx_shl 1 p) (-1)
        refine r_iand (pc' := 37) rfl rfl ?_
        have b8 := mx_and_r r (mx_xor (mx_shl 1 p) (-1))
        have e9 : 0 ≤ mx_and r (mx_xor (mx_shl 1 p) (-1)) ∧ mx_and r (mx_xor (mx_shl 1 p) (-1)) < 256 := and_u (a := r) (b := (mx_xor (mx_shl 1 p) (-1))) 8 (by omega) (by omega) (by omega)
        refine r_istore (pc' := 38) (ls' := [some (.inl a), some (.inl m), some (.inl (mx_and r (mx_xor (mx_shl 1 p) (-1)))), some (.inl g), some (.inl p)]) rfl rfl rfl rfl ?_
        refine r_iinc (pc' := 41) (ls' := [some (.inl a), some (.inl m), some (.inl (mx_and r (mx_xor (mx_shl 1 p) (-1)))), some (.inl (g + 1)), some (.inl p)]) rfl rfl rfl rfl rfl ?_
        refine r_iinc (pc' := 44) (ls' := [some (.inl a), some (.inl m), some (.inl (mx_and r (mx_xor (mx_shl 1 p) (-1)))), some (.inl (g + 1)), some (.inl (p + 1))]) rfl rfl rfl rfl rfl ?_
        refine r_goto (pc' := 7) rfl rfl ?_
        exact ih7 ((mx_and r (mx_xor (mx_shl 1 p) (-1))), (g + 1), (p + 1)) (show (0 ≤ (mx_and r (mx_xor (mx_shl 1 p) (-1))) ∧ (mx_and r (mx_xor (mx_shl 1 p) (-1))) < 256) ∧ (0 ≤ (g + 1) ∧ (g + 1) ≤ 8) ∧ ((0 ≤ (p + 1) ∧ (p + 1) ≤ 8) ∧ (g + 1) ≤ (p + 1)) ∧ (fo (wst (fun xx => xx) m) (a, 0) (p + 1).toNat = ((mx_and r (mx_xor (mx_shl 1 p) (-1))), (g + 1))) from by exact ⟨by omega, by omega, by omega, by rw [show (p + 1) = (p) + 1 by omega, fo_s (by omega), i2]; unfold wst; show (if _ then _ else _) = _; exact if_pos ⟨by omega, h5⟩⟩) (show (8 - (p + 1)).toNat < (8 - p).toNat from by omega)
      · refine r_icmp_ne1 (pc' := 41) rfl rfl (by omega) (fun q => h5 ((b_tst (by omega)).mp q)) ?_
        refine r_iinc (pc' := 44) (ls' := [some (.inl a), some (.inl m), some (.inl r), some (.inl g), some (.inl (p + 1))]) rfl rfl rfl rfl rfl ?_
        refine r_goto (pc' := 7) rfl rfl ?_
        exact ih7 (r, g, (p + 1)) (show (0 ≤ r ∧ r < 256) ∧ (0 ≤ g ∧ g ≤ 8) ∧ ((0 ≤ (p + 1) ∧ (p + 1) ≤ 8) ∧ g ≤ (p + 1)) ∧ (fo (wst (fun xx => xx) m) (a, 0) (p + 1).toNat = (r, g)) from by exact ⟨by omega, by omega, by omega, by rw [show (p + 1) = (p) + 1 by omega, fo_s (by omega), i2]; unfold wst; show (if _ then _ else _) = _; exact if_neg (fun q => absurd q.2 h5)⟩) (show (8 - (p + 1)).toNat < (8 - p).toNat from by omega)
    · refine r_icmp_ge1 (pc' := 47) rfl rfl (by omega) (by omega) ?_
      refine r_iload (pc' := 48) rfl rfl rfl ?_
      refine q_iret rfl rfl rfl ?_
      exact ⟨by unfold wo; rw [fo_stop i2 (fun k => by unfold wst; exact if_neg (by omega)) 8 (by omega)], rfl⟩
  · refine r_icmp_ge1 (pc' := 47) rfl rfl (by omega) (by omega) ?_
    refine r_iload (pc' := 48) rfl rfl rfl ?_
    refine q_iret rfl rfl rfl ?_
    exact ⟨by unfold wo; rw [show (8 : Nat) = (p).toNat by omega, i2], rfl⟩
theorem c_X1_leftBehindRain {k : Int} {a : Int} {r : Int} {S : rS} (h_k : -2147483648 ≤ k ∧ k < 2147483648) (h_a : 0 ≤ a ∧ a < 256) (h_r : 1 ≤ r ∧ r ≤ 9) : CS 2 135 [.inl k, .inl a, .inl r] S (fun r' S' => r' = some (.inl (rnl k a r)) ∧ S' = S) := by
  refine RS.beg (ls := [some (.inl k), some (.inl a), some (.inl r)]) rfl rfl rfl rfl rfl ?_
  refine r_iload (pc' := 1) rfl rfl rfl ?_
  by_cases h1 : k = 0
  · refine r_tsw (pc' := 32) 0 rfl rfl rfl (by omega) (by omega) ?_
    refine r_iload (pc' := 33) rfl rfl rfl ?_
    refine r_iload (pc' := 34) rfl rfl rfl ?_
    refine q_callE (pc' := 37) (w := some (.inl (wo (fun xx => 7 - xx) r a))) (S2 := S) (st' := [.inl (wo (fun xx => 7 - xx) r a)]) rfl rfl rfl (c_X1_withoutLast (a := a) (m := r) (S := S)  (show 0 ≤ a ∧ a < 256 from by omega) (show -10 ≤ r ∧ r ≤ 10 from by omega)) (by decide) rfl rfl (Nat.le_of_ble_eq_true rfl) (fun q => absurd rfl q) rfl rfl ?_
    have b2 : 0 ≤ (wo (fun xx => 7 - xx) r a) ∧ (wo (fun xx => 7 - xx) r a) < 256 := wo_r (by omega)
    refine q_iret rfl rfl rfl ?_
    exact ⟨by unfold rnl; rw [if_pos h1], rfl⟩
  by_cases h3 : k = 1
  · refine r_tsw (pc' := 52) 1 rfl rfl rfl (by omega) (by omega) ?_
    refine r_iload (pc' := 53) rfl rfl rfl ?_
    refine q_iret rfl rfl rfl ?_
    exact ⟨by unfold rnl; rw [if_neg h1, if_pos h3], rfl⟩
  by_cases h4 : k = 2
  · refine r_tsw (pc' := 38) 2 rfl rfl rfl (by omega) (by omega) ?_
    refine r_iload (pc' := 39) rfl rfl rfl ?_
    refine r_iload (pc' := 40) rfl rfl rfl ?_
    refine r_const (pc' := 41) rfl rfl ?_
    refine r_isub (pc' := 42) rfl rfl ?_
    refine q_callE (pc' := 45) (w := some (.inl (wo (fun xx => 7 - xx) (r - 3) a))) (S2 := S) (st' := [.inl (wo (fun xx => 7 - xx) (r - 3) a)]) rfl rfl rfl (c_X1_withoutLast (a := a) (m := (r - 3)) (S := S)  (show 0 ≤ a ∧ a < 256 from by omega) (show -10 ≤ (r - 3) ∧ (r - 3) ≤ 10 from by omega)) (by decide) rfl rfl (Nat.le_of_ble_eq_true rfl) (fun q => absurd rfl q) rfl rfl ?_
    have b5 : 0 ≤ (wo (fun xx => 7 - xx) (r - 3) a) ∧ (wo (fun xx => 7 - xx) (r - 3) a) < 256 := wo_r (by omega)
    refine q_iret rfl rfl rfl ?_
    exact ⟨by unfold rnl; rw [if_neg h1, if_neg h3, if_pos h4], rfl⟩
  by_cases h6 : k = 3
  · refine r_tsw (pc' := 46) 3 rfl rfl rfl (by omega) (by omega) ?_
    refine r_iload (pc' := 47) rfl rfl rfl ?_
    refine r_iload (pc' := 48) rfl rfl rfl ?_
    refine q_callE (pc' := 51) (w := some (.inl (wo (fun xx => xx) r a))) (S2 := S) (st' := [.inl (wo (fun xx => xx) r a)]) rfl rfl rfl (c_X1_withoutFirst (a := a) (m := r) (S := S)  (show 0 ≤ a ∧ a < 256 from by omega) (show -10 ≤ r ∧ r ≤ 10 from by omega)) (by decide) rfl rfl (Nat.le_of_ble_eq_true rfl) (fun q => absurd rfl q) rfl rfl ?_
    have b7 : 0 ≤ (wo (fun xx => xx) r a) ∧ (wo (fun xx => xx) r a) < 256 := wo_r (by omega)
    refine q_iret rfl rfl rfl ?_
    exact ⟨by unfold rnl; rw [if_neg h1, if_neg h3, if_neg h4, if_pos h6], rfl⟩
  refine r_tswd (pc' := 52) rfl rfl (by omega) (by omega) ?_
  refine r_iload (pc' := 53) rfl rfl rfl ?_
  refine q_iret rfl rfl rfl ?_
  exact ⟨by unfold rnl; rw [if_neg h1, if_neg h3, if_neg h4, if_neg h6], rfl⟩
theorem c_X7_takeFrom_rn {i : Int} {S : rS} (hB : Bd S) (h_i : 0 ≤ i ∧ i < 8) : CS 1 175 [.inr (.inr (63 + 2 * i)), .inr (.inr 59)] S (fun r' S' => r' = none ∧ S' = tks S (63 + 2 * i) (59)) := by
  refine RS.beg (ls := [some (.inr (.inr (63 + 2 * i))), some (.inr (.inr 59)), none]) rfl rfl rfl rfl rfl ?_
  refine r_const (pc' := 1) rfl rfl ?_
  refine r_istore (pc' := 2) (ls' := [some (.inr (.inr (63 + 2 * i))), some (.inr (.inr 59)), some (.inl 0)]) rfl rfl rfl rfl ?_
  refine r_mem (show S = fl S (64 + 2 * i) (fun kk => S (60) kk) (0 : Int) from by exact fl_0 S _ _) ?_
  refine r_while (α := Int) (fun z' => [some (.inr (.inr (63 + 2 * i))), some (.inr (.inr 59)), some (.inl z')]) (fun z' => fl S (64 + 2 * i) (fun kk => S (60) kk) z') (fun z' => (0 ≤ z' ∧ z' ≤ 7)) (fun z' => (7 - z').toNat) ?_ 0 (show (0 ≤ (0 : Int) ∧ (0 : Int) ≤ 7) from by omega)
  rintro f hI' ih2
  have hI' : (0 ≤ f ∧ f ≤ 7) := hI'
  have i1 := hI'
  show RS _ _ _ _ [some (.inr (.inr (63 + 2 * i))), some (.inr (.inr 59)), some (.inl f)] [] (fl S (64 + 2 * i) (fun kk => S (60) kk) f)
  have hB1 : Bd (fl S (64 + 2 * i) (fun kk => S (60) kk) f) := by exact Bd_fl hB (fun k _ _ => by have q := hB (60) k; have e1 := (bds_63 (by omega)).1 k; have e2 := bds_59.1 k; rw [show (63 + 2 * i : Int) + 1 = 64 + 2 * i by omega] at e1; rw [show (59 : Int) + 1 = 60 by omega] at e2; omega)
  refine r_iload (pc' := 3) rfl rfl rfl ?_
  refine r_const (pc' := 5) rfl rfl ?_
  by_cases h2 : f < 7
  · refine r_icmp_ge0 (pc' := 8) rfl rfl (by omega) (by omega) ?_
    refine r_aload (pc' := 9) rfl rfl rfl ?_
    refine r_getr (pc' := 12) (v := (64 + 2 * i)) rfl rfl rfl (sho_63 (by omega)) (rfo_63 (by omega)) ?_
    refine r_iload (pc' := 13) rfl rfl rfl ?_
    refine r_aload (pc' := 14) rfl rfl rfl ?_
    refine r_getr (pc' := 17) (v := 60) rfl rfl rfl rfl rfl ?_
    refine r_iload (pc' := 18) rfl rfl rfl ?_
    refine r_aldv (pc' := 19) (v := (S 60 f)) 7 rfl rfl rfl (by omega) (fl_o (by omega)) ?_
    have b3 : 0 ≤ S 60 f ∧ S 60 f ≤ 255 := hB 60 f
    refine r_ast (pc' := 20) 7 rfl rfl (sho_64 (by omega)) (by omega) ?_
    refine r_iinc (pc' := 23) (ls' := [some (.inr (.inr (63 + 2 * i))), some (.inr (.inr 59)), some (.inl (f + 1))]) rfl rfl rfl rfl rfl ?_
    refine r_goto (pc' := 2) rfl rfl ?_
    refine r_mem (show mx_up (fl S (64 + 2 * i) (fun kk => S (60) kk) f) (64 + 2 * i) f (S 60 f) = fl S (64 + 2 * i) (fun kk => S (60) kk) (f + 1) from by exact fl_s (by omega) rfl) ?_
    exact ih2 (f + 1) (show (0 ≤ (f + 1) ∧ (f + 1) ≤ 7) from by omega) (show (7 - (f + 1)).toNat < (7 - f).toNat from by omega)
  · refine r_icmp_ge1 (pc' := 26) rfl rfl (by omega) (by omega) ?_
    refine r_aload (pc' := 27) rfl rfl rfl ?_
    refine r_aload (pc' := 28) rfl rfl rfl ?_
    refine r_getv (pc' := 31) (v := (S 59 1)) rfl rfl (Or.inl rfl) rfl (fl_o (by omega)) ?_
    have b4 : 0 ≤ S 59 1 ∧ S 59 1 ≤ 127 := hB 59 1
    refine r_put (pc' := 34) rfl rfl rfl (sho_63 (by omega)) ?_
    refine r_aload (pc' := 35) rfl rfl rfl ?_
    refine r_aload (pc' := 36) rfl rfl rfl ?_
    refine r_getv (pc' := 39) (v := (S 59 2)) rfl rfl (Or.inl rfl) rfl ((up_ne (by omega)).trans (fl_o (by omega))) ?_
    have b5 : 0 ≤ S 59 2 ∧ S 59 2 ≤ 99 := hB 59 2
    refine r_put (pc' := 42) rfl rfl rfl (sho_63 (by omega)) ?_
    refine r_aload (pc' := 43) rfl rfl rfl ?_
    refine r_aload (pc' := 44) rfl rfl rfl ?_
    refine r_getv (pc' := 47) (v := (S 59 3)) rfl rfl (Or.inl rfl) rfl ((up_ne (by omega)).trans ((up_ne (by omega)).trans (fl_o (by omega)))) ?_
    have b6 : 0 ≤ S 59 3 ∧ S 59 3 ≤ 999 := hB 59 3
    refine r_put (pc' := 50) rfl rfl rfl (sho_63 (by omega)) ?_
    refine r_aload (pc' := 51) rfl rfl rfl ?_
    refine r_aload (pc' := 52) rfl rfl rfl ?_
    refine r_getv (pc' := 55) (v := (S 59 4)) rfl rfl (Or.inl rfl) rfl ((up_ne (by omega)).trans ((up_ne (by omega)).trans ((up_ne (by omega)).trans (fl_o (by omega))))) ?_
    have b7 : 0 ≤ S 59 4 ∧ S 59 4 ≤ 6 := hB 59 4
    refine r_put (pc' := 58) rfl rfl rfl (sho_63 (by omega)) ?_
    refine r_aload (pc' := 59) rfl rfl rfl ?_
    refine r_aload (pc' := 60) rfl rfl rfl ?_
    refine r_getv (pc' := 63) (v := (S 59 5)) rfl rfl (Or.inl rfl) rfl ((up_ne (by omega)).trans ((up_ne (by omega)).trans ((up_ne (by omega)).trans ((up_ne (by omega)).trans (fl_o (by omega)))))) ?_
    have b8 : 0 ≤ S 59 5 ∧ S 59 5 ≤ 9 := hB 59 5
    refine r_put (pc' := 66) rfl rfl rfl (sho_63 (by omega)) ?_
    refine q_vret rfl rfl rfl ?_
    obtain rfl : f = 7 := by omega
    exact ⟨rfl, tks_e S (63 + 2 * i) (59) (64 + 2 * i) (by omega) _ (by funext k; rw [show (59 : Int) + 1 = 60 by omega])⟩
theorem c_X7_takeFrom_nr {i : Int} {S : rS} (hB : Bd S) (h_i : 0 ≤ i ∧ i < 8) : CS 1 175 [.inr (.inr 59), .inr (.inr (63 + 2 * i))] S (fun r' S' => r' = none ∧ S' = tks S (59) (63 + 2 * i)) := by
  refine RS.beg (ls := [some (.inr (.inr 59)), some (.inr (.inr (63 + 2 * i))), none]) rfl rfl rfl rfl rfl ?_
  refine r_const (pc' := 1) rfl rfl ?_
  refine r_istore (pc' := 2) (ls' := [some (.inr (.inr 59)), some (.inr (.inr (63 + 2 * i))), some (.inl 0)]) rfl rfl rfl rfl ?_
  refine r_mem (show S = fl S (60) (fun kk => S (64 + 2 * i) kk) (0 : Int) from by exact fl_0 S _ _) ?_
  refine r_while (α := Int) (fun z' => [some (.inr (.inr 59)), some (.inr (.inr (63 + 2 * i))), some (.inl z')]) (fun z' => fl S (60) (fun kk => S (64 + 2 * i) kk) z') (fun z' => (0 ≤ z' ∧ z' ≤ 7)) (fun z' => (7 - z').toNat) ?_ 0 (show (0 ≤ (0 : Int) ∧ (0 : Int) ≤ 7) from by omega)
  rintro f hI' ih2
  have hI' : (0 ≤ f ∧ f ≤ 7) := hI'
  have i1 := hI'
  show RS _ _ _ _ [some (.inr (.inr 59)), some (.inr (.inr (63 + 2 * i))), some (.inl f)] [] (fl S (60) (fun kk => S (64 + 2 * i) kk) f)
  have hB1 : Bd (fl S (60) (fun kk => S (64 + 2 * i) kk) f) := by exact Bd_fl hB (fun k _ _ => by have q := hB (64 + 2 * i) k; have e1 := bds_59.1 k; have e2 := (bds_63 (by omega)).1 k; rw [show (59 : Int) + 1 = 60 by omega] at e1; rw [show (63 + 2 * i : Int) + 1 = 64 + 2 * i by omega] at e2; omega)
  refine r_iload (pc' := 3) rfl rfl rfl ?_
  refine r_const (pc' := 5) rfl rfl ?_
  by_cases h2 : f < 7
  · refine r_icmp_ge0 (pc' := 8) rfl rfl (by omega) (by omega) ?_
    refine r_aload (pc' := 9) rfl rfl rfl ?_
    refine r_getr (pc' := 12) (v := 60) rfl rfl rfl rfl rfl ?_
    refine r_iload (pc' := 13) rfl rfl rfl ?_
    refine r_aload (pc' := 14) rfl rfl rfl ?_
    refine r_getr (pc' := 17) (v := (64 + 2 * i)) rfl rfl rfl (sho_63 (by omega)) (rfo_63 (by omega)) ?_
    refine r_iload (pc' := 18) rfl rfl rfl ?_
    refine r_aldv (pc' := 19) (v := (S (64 + 2 * i) f)) 7 rfl rfl (sho_64 (by omega)) (by omega) (fl_o (by omega)) ?_
    have b3 : 0 ≤ S (64 + 2 * i) f ∧ S (64 + 2 * i) f ≤ 255 := bdo_64 hB (by omega) f
    refine r_ast (pc' := 20) 7 rfl rfl rfl (by omega) ?_
    refine r_iinc (pc' := 23) (ls' := [some (.inr (.inr 59)), some (.inr (.inr (63 + 2 * i))), some (.inl (f + 1))]) rfl rfl rfl rfl rfl ?_
    refine r_goto (pc' := 2) rfl rfl ?_
    refine r_mem (show mx_up (fl S (60) (fun kk => S (64 + 2 * i) kk) f) 60 f (S (64 + 2 * i) f) = fl S (60) (fun kk => S (64 + 2 * i) kk) (f + 1) from by exact fl_s (by omega) rfl) ?_
    exact ih2 (f + 1) (show (0 ≤ (f + 1) ∧ (f + 1) ≤ 7) from by omega) (show (7 - (f + 1)).toNat < (7 - f).toNat from by omega)
  · refine r_icmp_ge1 (pc' := 26) rfl rfl (by omega) (by omega) ?_
    refine r_aload (pc' := 27) rfl rfl rfl ?_
    refine r_aload (pc' := 28) rfl rfl rfl ?_
    refine r_getv (pc' := 31) (v := (S (63 + 2 * i) 1)) rfl rfl (Or.inl rfl) (sho_63 (by omega)) (fl_o (by omega)) ?_
    have b4 : 0 ≤ S (63 + 2 * i) 1 ∧ S (63 + 2 * i) 1 ≤ 127 := bdo_631 hB (by omega)
    refine r_put (pc' := 34) rfl rfl rfl rfl ?_
    refine r_aload (pc' := 35) rfl rfl rfl ?_
    refine r_aload (pc' := 36) rfl rfl rfl ?_
    refine r_getv (pc' := 39) (v := (S (63 + 2 * i) 2)) rfl rfl (Or.inl rfl) (sho_63 (by omega)) ((up_ne (by omega)).trans (fl_o (by omega))) ?_
    have b5 : 0 ≤ S (63 + 2 * i) 2 ∧ S (63 + 2 * i) 2 ≤ 99 := bdo_632 hB (by omega)
    refine r_put (pc' := 42) rfl rfl rfl rfl ?_
    refine r_aload (pc' := 43) rfl rfl rfl ?_
    refine r_aload (pc' := 44) rfl rfl rfl ?_
    refine r_getv (pc' := 47) (v := (S (63 + 2 * i) 3)) rfl rfl (Or.inl rfl) (sho_63 (by omega)) ((up_ne (by omega)).trans ((up_ne (by omega)).trans (fl_o (by omega)))) ?_
    have b6 : 0 ≤ S (63 + 2 * i) 3 ∧ S (63 + 2 * i) 3 ≤ 999 := bdo_633 hB (by omega)
    refine r_put (pc' := 50) rfl rfl rfl rfl ?_
    refine r_aload (pc' := 51) rfl rfl rfl ?_
    refine r_aload (pc' := 52) rfl rfl rfl ?_
    refine r_getv (pc' := 55) (v := (S (63 + 2 * i) 4)) rfl rfl (Or.inl rfl) (sho_63 (by omega)) ((up_ne (by omega)).trans ((up_ne (by omega)).trans ((up_ne (by omega)).trans (fl_o (by omega))))) ?_
    have b7 : 0 ≤ S (63 + 2 * i) 4 ∧ S (63 + 2 * i) 4 ≤ 6 := bdo_634 hB (by omega)
    refine r_put (pc' := 58) rfl rfl rfl rfl ?_
    refine r_aload (pc' := 59) rfl rfl rfl ?_
    refine r_aload (pc' := 60) rfl rfl rfl ?_
    refine r_getv (pc' := 63) (v := (S (63 + 2 * i) 5)) rfl rfl (Or.inl rfl) (sho_63 (by omega)) ((up_ne (by omega)).trans ((up_ne (by omega)).trans ((up_ne (by omega)).trans ((up_ne (by omega)).trans (fl_o (by omega)))))) ?_
    have b8 : 0 ≤ S (63 + 2 * i) 5 ∧ S (63 + 2 * i) 5 ≤ 9 := bdo_635 hB (by omega)
    refine r_put (pc' := 66) rfl rfl rfl rfl ?_
    refine q_vret rfl rfl rfl ?_
    obtain rfl : f = 7 := by omega
    exact ⟨rfl, tks_e S (59) (63 + 2 * i) (60) (by omega) _ (by funext k; rw [show (63 + 2 * i : Int) + 1 = 64 + 2 * i by omega])⟩
theorem c_X7_takeFrom_kn {i : Int} {S : rS} (hB : Bd S) (h_i : 0 ≤ i ∧ i < 2) : CS 1 175 [.inr (.inr (220 + 2 * i)), .inr (.inr 59)] S (fun r' S' => r' = none ∧ S' = tks S (220 + 2 * i) (59)) := by
  refine RS.beg (ls := [some (.inr (.inr (220 + 2 * i))), some (.inr (.inr 59)), none]) rfl rfl rfl rfl rfl ?_
  refine r_const (pc' := 1) rfl rfl ?_
  refine r_istore (pc' := 2) (ls' := [some (.inr (.inr (220 + 2 * i))), some (.inr (.inr 59)), some (.inl 0)]) rfl rfl rfl rfl ?_
  refine r_mem (show S = fl S (221 + 2 * i) (fun kk => S (60) kk) (0 : Int) from by exact fl_0 S _ _) ?_
  refine r_while (α := Int) (fun z' => [some (.inr (.inr (220 + 2 * i))), some (.inr (.inr 59)), some (.inl z')]) (fun z' => fl S (221 + 2 * i) (fun kk => S (60) kk) z') (fun z' => (0 ≤ z' ∧ z' ≤ 7)) (fun z' => (7 - z').toNat) ?_ 0 (show (0 ≤ (0 : Int) ∧ (0 : Int) ≤ 7) from by omega)
  rintro f hI' ih2
  have hI' : (0 ≤ f ∧ f ≤ 7) := hI'
  have i1 := hI'
  show RS _ _ _ _ [some (.inr (.inr (220 + 2 * i))), some (.inr (.inr 59)), some (.inl f)] [] (fl S (221 + 2 * i) (fun kk => S (60) kk) f)
  have hB1 : Bd (fl S (221 + 2 * i) (fun kk => S (60) kk) f) := by exact Bd_fl hB (fun k _ _ => by have q := hB (60) k; have e1 := (bds_220 (by omega)).1 k; have e2 := bds_59.1 k; rw [show (220 + 2 * i : Int) + 1 = 221 + 2 * i by omega] at e1; rw [show (59 : Int) + 1 = 60 by omega] at e2; omega)
  refine r_iload (pc' := 3) rfl rfl rfl ?_
  refine r_const (pc' := 5) rfl rfl ?_
  by_cases h2 : f < 7
  · refine r_icmp_ge0 (pc' := 8) rfl rfl (by omega) (by omega) ?_
    refine r_aload (pc' := 9) rfl rfl rfl ?_
    refine r_getr (pc' := 12) (v := (221 + 2 * i)) rfl rfl rfl (sho_220 (by omega)) (rfo_220 (by omega)) ?_
    refine r_iload (pc' := 13) rfl rfl rfl ?_
    refine r_aload (pc' := 14) rfl rfl rfl ?_
    refine r_getr (pc' := 17) (v := 60) rfl rfl rfl rfl rfl ?_
    refine r_iload (pc' := 18) rfl rfl rfl ?_
    refine r_aldv (pc' := 19) (v := (S 60 f)) 7 rfl rfl rfl (by omega) (fl_o (by omega)) ?_
    have b3 : 0 ≤ S 60 f ∧ S 60 f ≤ 255 := hB 60 f
    refine r_ast (pc' := 20) 7 rfl rfl (sho_221 (by omega)) (by omega) ?_
    refine r_iinc (pc' := 23) (ls' := [some (.inr (.inr (220 + 2 * i))), some (.inr (.inr 59)), some (.inl (f + 1))]) rfl rfl rfl rfl rfl ?_
    refine r_goto (pc' := 2) rfl rfl ?_
    refine r_mem (show mx_up (fl S (221 + 2 * i) (fun kk => S (60) kk) f) (221 + 2 * i) f (S 60 f) = fl S (221 + 2 * i) (fun kk => S (60) kk) (f + 1) from by exact fl_s (by omega) rfl) ?_
    exact ih2 (f + 1) (show (0 ≤ (f + 1) ∧ (f + 1) ≤ 7) from by omega) (show (7 - (f + 1)).toNat < (7 - f).toNat from by omega)
  · refine r_icmp_ge1 (pc' := 26) rfl rfl (by omega) (by omega) ?_
    refine r_aload (pc' := 27) rfl rfl rfl ?_
    refine r_aload (pc' := 28) rfl rfl rfl ?_
    refine r_getv (pc' := 31) (v := (S 59 1)) rfl rfl (Or.inl rfl) rfl (fl_o (by omega)) ?_
    have b4 : 0 ≤ S 59 1 ∧ S 59 1 ≤ 127 := hB 59 1
    refine r_put (pc' := 34) rfl rfl rfl (sho_220 (by omega)) ?_
    refine r_aload (pc' := 35) rfl rfl rfl ?_
    refine r_aload (pc' := 36) rfl rfl rfl ?_
    refine r_getv (pc' := 39) (v := (S 59 2)) rfl rfl (Or.inl rfl) rfl ((up_ne (by omega)).trans (fl_o (by omega))) ?_
    have b5 : 0 ≤ S 59 2 ∧ S 59 2 ≤ 99 := hB 59 2
    refine r_put (pc' := 42) rfl rfl rfl (sho_220 (by omega)) ?_
    refine r_aload (pc' := 43) rfl rfl rfl ?_
    refine r_aload (pc' := 44) rfl rfl rfl ?_
    refine r_getv (pc' := 47) (v := (S 59 3)) rfl rfl (Or.inl rfl) rfl ((up_ne (by omega)).trans ((up_ne (by omega)).trans (fl_o (by omega)))) ?_
    have b6 : 0 ≤ S 59 3 ∧ S 59 3 ≤ 999 := hB 59 3
    refine r_put (pc' := 50) rfl rfl rfl (sho_220 (by omega)) ?_
    refine r_aload (pc' := 51) rfl rfl rfl ?_
    refine r_aload (pc' := 52) rfl rfl rfl ?_
    refine r_getv (pc' := 55) (v := (S 59 4)) rfl rfl (Or.inl rfl) rfl ((up_ne (by omega)).trans ((up_ne (by omega)).trans ((up_ne (by omega)).trans (fl_o (by omega))))) ?_
    have b7 : 0 ≤ S 59 4 ∧ S 59 4 ≤ 6 := hB 59 4
    refine r_put (pc' := 58) rfl rfl rfl (sho_220 (by omega)) ?_
    refine r_aload (pc' := 59) rfl rfl rfl ?_
    refine r_aload (pc' := 60) rfl rfl rfl ?_
    refine r_getv (pc' := 63) (v := (S 59 5)) rfl rfl (Or.inl rfl) rfl ((up_ne (by omega)).trans ((up_ne (by omega)).trans ((up_ne (by omega)).trans ((up_ne (by omega)).trans (fl_o (by omega)))))) ?_
    have b8 : 0 ≤ S 59 5 ∧ S 59 5 ≤ 9 := hB 59 5
    refine r_put (pc' := 66) rfl rfl rfl (sho_220 (by omega)) ?_
    refine q_vret rfl rfl rfl ?_
    obtain rfl : f = 7 := by omega
    exact ⟨rfl, tks_e S (220 + 2 * i) (59) (221 + 2 * i) (by omega) _ (by funext k; rw [show (59 : Int) + 1 = 60 by omega])⟩
theorem c_X7_takeFrom_nk {i : Int} {S : rS} (hB : Bd S) (h_i : 0 ≤ i ∧ i < 2) : CS 1 175 [.inr (.inr 59), .inr (.inr (220 + 2 * i))] S (fun r' S' => r' = none ∧ S' = tks S (59) (220 + 2 * i)) := by
  refine RS.beg (ls := [some (.inr (.inr 59)), some (.inr (.inr (220 + 2 * i))), none]) rfl rfl rfl rfl rfl ?_
  refine r_const (pc' := 1) rfl rfl ?_
  refine r_istore (pc' := 2) (ls' := [some (.inr (.inr 59)), some (.inr (.inr (220 + 2 * i))), some (.inl 0)]) rfl rfl rfl rfl ?_
  refine r_mem (show S = fl S (60) (fun kk => S (221 + 2 * i) kk) (0 : Int) from by exact fl_0 S _ _) ?_
  refine r_while (α := Int) (fun z' => [some (.inr (.inr 59)), some (.inr (.inr (220 + 2 * i))), some (.inl z')]) (fun z' => fl S (60) (fun kk => S (221 + 2 * i) kk) z') (fun z' => (0 ≤ z' ∧ z' ≤ 7)) (fun z' => (7 - z').toNat) ?_ 0 (show (0 ≤ (0 : Int) ∧ (0 : Int) ≤ 7) from by omega)
  rintro f hI' ih2
  have hI' : (0 ≤ f ∧ f ≤ 7) := hI'
  have i1 := hI'
  show RS _ _ _ _ [some (.inr (.inr 59)), some (.inr (.inr (220 + 2 * i))), some (.inl f)] [] (fl S (60) (fun kk => S (221 + 2 * i) kk) f)
  have hB1 : Bd (fl S (60) (fun kk => S (221 + 2 * i) kk) f) := by exact Bd_fl hB (fun k _ _ => by have q := hB (221 + 2 * i) k; have e1 := bds_59.1 k; have e2 := (bds_220 (by omega)).1 k; rw [show (59 : Int) + 1 = 60 by omega] at e1; rw [show (220 + 2 * i : Int) + 1 = 221 + 2 * i by omega] at e2; omega)
  refine r_iload (pc' := 3) rfl rfl rfl ?_
  refine r_const (pc' := 5) rfl rfl ?_
  by_cases h2 : f < 7
  · refine r_icmp_ge0 (pc' := 8) rfl rfl (by omega) (by omega) ?_
    refine r_aload (pc' := 9) rfl rfl rfl ?_
    refine r_getr (pc' := 12) (v := 60) rfl rfl rfl rfl rfl ?_
    refine r_iload (pc' := 13) rfl rfl rfl ?_
    refine r_aload (pc' := 14) rfl rfl rfl ?_
    refine r_getr (pc' := 17) (v := (221 + 2 * i)) rfl rfl rfl (sho_220 (by omega)) (rfo_220 (by omega)) ?_
    refine r_iload (pc' := 18) rfl rfl rfl ?_
    refine r_aldv (pc' := 19) (v := (S (221 + 2 * i) f)) 7 rfl rfl (sho_221 (by omega)) (by omega) (fl_o (by omega)) ?_
    have b3 : 0 ≤ S (221 + 2 * i) f ∧ S (221 + 2 * i) f ≤ 255 := bdo_221 hB (by omega) f
    refine r_ast (pc' := 20) 7 rfl rfl rfl (by omega) ?_
    refine r_iinc (pc' := 23) (ls' := [some (.inr (.inr 59)), some (.inr (.inr (220 + 2 * i))), some (.inl (f + 1))]) rfl rfl rfl rfl rfl ?_
    refine r_goto (pc' := 2) rfl rfl ?_
    refine r_mem (show mx_up (fl S (60) (fun kk => S (221 + 2 * i) kk) f) 60 f (S (221 + 2 * i) f) = fl S (60) (fun kk => S (221 + 2 * i) kk) (f + 1) from by exact fl_s (by omega) rfl) ?_
    exact ih2 (f + 1) (show (0 ≤ (f + 1) ∧ (f + 1) ≤ 7) from by omega) (show (7 - (f + 1)).toNat < (7 - f).toNat from by omega)
  · refine r_icmp_ge1 (pc' := 26) rfl rfl (by omega) (by omega) ?_
    refine r_aload (pc' := 27) rfl rfl rfl ?_
    refine r_aload (pc' := 28) rfl rfl rfl ?_
    refine r_getv (pc' := 31) (v := (S (220 + 2 * i) 1)) rfl rfl (Or.inl rfl) (sho_220 (by omega)) (fl_o (by omega)) ?_
    have b4 : 0 ≤ S (220 + 2 * i) 1 ∧ S (220 + 2 * i) 1 ≤ 127 := bdo_2201 hB (by omega)
    refine r_put (pc' := 34) rfl rfl rfl rfl ?_
    refine r_aload (pc' := 35) rfl rfl rfl ?_
    refine r_aload (pc' := 36) rfl rfl rfl ?_
    refine r_getv (pc' := 39) (v := (S (220 + 2 * i) 2)) rfl rfl (Or.inl rfl) (sho_220 (by omega)) ((up_ne (by omega)).trans (fl_o (by omega))) ?_
    have b5 : 0 ≤ S (220 + 2 * i) 2 ∧ S (220 + 2 * i) 2 ≤ 99 := bdo_2202 hB (by omega)
    refine r_put (pc' := 42) rfl rfl rfl rfl ?_
    refine r_aload (pc' := 43) rfl rfl rfl ?_
    refine r_aload (pc' := 44) rfl rfl rfl ?_
    refine r_getv (pc' := 47) (v := (S (220 + 2 * i) 3)) rfl rfl (Or.inl rfl) (sho_220 (by omega)) ((up_ne (by omega)).trans ((up_ne (by omega)).trans (fl_o (by omega)))) ?_
    have b6 : 0 ≤ S (220 + 2 * i) 3 ∧ S (220 + 2 * i) 3 ≤ 999 := bdo_2203 hB (by omega)
    refine r_put (pc' := 50) rfl rfl rfl rfl ?_
    refine r_aload (pc' := 51) rfl rfl rfl ?_
    refine r_aload (pc' := 52) rfl rfl rfl ?_
    refine r_getv (pc' := 55) (v := (S (220 + 2 * i) 4)) rfl rfl (Or.inl rfl) (sho_220 (by omega)) ((up_ne (by omega)).trans ((up_ne (by omega)).trans ((up_ne (by omega)).trans (fl_o (by omega))))) ?_
    have b7 : 0 ≤ S (220 + 2 * i) 4 ∧ S (220 + 2 * i) 4 ≤ 6 := bdo_2204 hB (by omega)
    refine r_put (pc' := 58) rfl rfl rfl rfl ?_
    refine r_aload (pc' := 59) rfl rfl rfl ?_
    refine r_aload (pc' := 60) rfl rfl rfl ?_
    refine r_getv (pc' := 63) (v := (S (220 + 2 * i) 5)) rfl rfl (Or.inl rfl) (sho_220 (by omega)) ((up_ne (by omega)).trans ((up_ne (by omega)).trans ((up_ne (by omega)).trans ((up_ne (by omega)).trans (fl_o (by omega)))))) ?_
    have b8 : 0 ≤ S (220 + 2 * i) 5 ∧ S (220 + 2 * i) 5 ≤ 9 := bdo_2205 hB (by omega)
    refine r_put (pc' := 66) rfl rfl rfl rfl ?_
    refine q_vret rfl rfl rfl ?_
    obtain rfl : f = 7 := by omega
    exact ⟨rfl, tks_e S (59) (220 + 2 * i) (60) (by omega) _ (by funext k; rw [show (220 + 2 * i : Int) + 1 = 221 + 2 * i by omega])⟩
/-- a state more to be undone -/
def rem (S : rS) : rS := mx_up (mx_up (tks S (63 + 2 * S 61 2) 59) 61 2 ((S 61 2 + 1) % 8)) 61 0 (mx_min (S 61 0 + 1) 8)
theorem rem_o {S : rS} (hB : Bd S) {a j : Int} (h : ¬ (61 ≤ a ∧ a ≤ 78)) : rem S a j = S a j := by
  have b : 0 ≤ S 61 2 ∧ S 61 2 ≤ 7 := hB 61 2
  unfold rem
  rw [up_ne (by omega), up_ne (by omega), tks_o (by omega)]
theorem Bd_rem {S : rS} (hB : Bd S) : Bd (rem S) := by
  have b : 0 ≤ S 61 2 ∧ S 61 2 ≤ 7 := hB 61 2
  have b0 : 0 ≤ S 61 0 ∧ S 61 0 ≤ 8 := hB 61 0
  have q := mx_min_b (S 61 0 + 1) 8
  unfold rem
  exact Bd_up (Bd_up (Bd_tks hB (bds_63 (by omega)) bds_59) (show (0 : Int) ≤ _ by omega) (show _ ≤ (7 : Int) by omega)) (show (0 : Int) ≤ _ by omega) (show _ ≤ (8 : Int) by omega)
theorem c_X4_remember {S : rS} (hB : Bd S) : CS 2 159 [.inr (.inr 61), .inr (.inr 59)] S (fun r' S' => r' = none ∧ S' = rem S) := by
  refine RS.beg (ls := [some (.inr (.inr 61)), some (.inr (.inr 59))]) rfl rfl rfl rfl rfl ?_
  have b1 : 0 ≤ S 61 2 ∧ S 61 2 ≤ 7 := hB 61 2
  have b0 : 0 ≤ S 61 0 ∧ S 61 0 ≤ 8 := hB 61 0
  refine r_aload (pc' := 1) rfl rfl rfl ?_
  refine r_getr (pc' := 4) (v := 62) rfl rfl rfl rfl rfl ?_
  refine r_aload (pc' := 5) rfl rfl rfl ?_
  refine r_getv (pc' := 8) (v := (S 61 2)) rfl rfl (Or.inl rfl) rfl rfl ?_
  have b1 : 0 ≤ S 61 2 ∧ S 61 2 ≤ 7 := hB 61 2
  refine r_aald (pc' := 9) (v := (63 + 2 * (S 61 2))) 103008 rfl rfl rfl rfl (by omega) rfl ?_
  refine r_aload (pc' := 10) rfl rfl rfl ?_
  refine q_callE (pc' := 13) (w := none) (S2 := tks S (63 + 2 * (S 61 2)) (59)) (st' := []) rfl rfl rfl (c_X7_takeFrom_rn (i := (S 61 2)) (S := S) hB (show 0 ≤ (S 61 2) ∧ (S 61 2) < 8 from by omega)) (by decide) rfl rfl (Nat.le_of_ble_eq_true rfl) (fun _ _ => ⟨_, _, rfl, (sho_63 (by omega))⟩) rfl rfl ?_
  have hB2 : Bd (tks S (63 + 2 * (S 61 2)) (59)) := Bd_tks hB (bds_63 (by omega)) bds_59
  refine r_aload (pc' := 14) rfl rfl rfl ?_
  refine r_aload (pc' := 15) rfl rfl rfl ?_
  refine r_getv (pc' := 18) (v := (S 61 2)) rfl rfl (Or.inl rfl) rfl (tks_o (by omega)) ?_
  refine r_const (pc' := 19) rfl rfl ?_
  refine r_iadd (pc' := 20) rfl rfl ?_
  refine r_const (pc' := 22) rfl rfl ?_
  refine r_irem (pc' := 23) rfl rfl (by omega) ?_
  refine r_put (pc' := 26) rfl rfl rfl rfl ?_
  refine r_aload (pc' := 27) rfl rfl rfl ?_
  refine r_aload (pc' := 28) rfl rfl rfl ?_
  refine r_getv (pc' := 31) (v := (S 61 0)) rfl rfl (Or.inl rfl) rfl ((up_ne (by omega)).trans (tks_o (by omega))) ?_
  have b3 : 0 ≤ S 61 0 ∧ S 61 0 ≤ 8 := hB 61 0
  refine r_const (pc' := 32) rfl rfl ?_
  refine r_iadd (pc' := 33) rfl rfl ?_
  refine r_const (pc' := 35) rfl rfl ?_
  refine r_min (pc' := 38) rfl rfl ⟨by omega, by decide⟩ ?_
  have b4 := mx_min_b ((S 61 0) + 1) 8
  refine r_put (pc' := 41) rfl rfl rfl rfl ?_
  refine q_vret rfl rfl rfl ?_
  exact ⟨rfl, rfl⟩
def rst (S : rS) : rS := tks (mx_up (mx_up S 61 2 ((S 61 2 + 8 - 1) % 8)) 61 0 (S 61 0 - 1)) 59 (63 + 2 * ((S 61 2 + 8 - 1) % 8))
theorem Bd_rst {S : rS} (hB : Bd S) (h : 1 ≤ S 61 0) : Bd (rst S) := by
  have b : 0 ≤ S 61 2 ∧ S 61 2 ≤ 7 := hB 61 2
  have b0 : 0 ≤ S 61 0 ∧ S 61 0 ≤ 8 := hB 61 0
  unfold rst
  exact Bd_tks (Bd_up (Bd_up hB (show (0 : Int) ≤ _ by omega) (show _ ≤ (7 : Int) by omega)) (show (0 : Int) ≤ _ by omega) (show _ ≤ (8 : Int) by omega)) bds_59 (bds_63 (by omega))
theorem rst_o {S : rS} {a j : Int} (h : ¬ (59 ≤ a ∧ a ≤ 61)) : rst S a j = S a j := by
  unfold rst
  rw [tks_o (by omega), up_ne (by omega), up_ne (by omega)]
theorem c_X4_restore {S : rS} (hB : Bd S) (h_z : 1 ≤ S 61 0) : CS 2 160 [.inr (.inr 61), .inr (.inr 59)] S (fun r' S' => r' = none ∧ S' = rst S) := by
  refine RS.beg (ls := [some (.inr (.inr 61)), some (.inr (.inr 59))]) rfl rfl rfl rfl rfl ?_
  have b1 : 0 ≤ S 61 2 ∧ S 61 2 ≤ 7 := hB 61 2
  have b0 : 0 ≤ S 61 0 ∧ S 61 0 ≤ 8 := hB 61 0
  refine r_aload (pc' := 1) rfl rfl rfl ?_
  refine r_aload (pc' := 2) rfl rfl rfl ?_
  refine r_getv (pc' := 5) (v := (S 61 2)) rfl rfl (Or.inl rfl) rfl rfl ?_
  have b1 : 0 ≤ S 61 2 ∧ S 61 2 ≤ 7 := hB 61 2
  refine r_const (pc' := 7) rfl rfl ?_
  refine r_iadd (pc' := 8) rfl rfl ?_
  refine r_const (pc' := 9) rfl rfl ?_
  refine r_isub (pc' := 10) rfl rfl ?_
  refine r_const (pc' := 12) rfl rfl ?_
  refine r_irem (pc' := 13) rfl rfl (by omega) ?_
  refine r_put (pc' := 16) rfl rfl rfl rfl ?_
  refine r_aload (pc' := 17) rfl rfl rfl ?_
  refine r_dupr (pc' := 18) rfl rfl ?_
  refine r_getv (pc' := 21) (v := (S 61 0)) rfl rfl (Or.inl rfl) rfl rfl ?_
  have b2 : 0 ≤ S 61 0 ∧ S 61 0 ≤ 8 := hB 61 0
  refine r_const (pc' := 22) rfl rfl ?_
  refine r_isub (pc' := 23) rfl rfl ?_
  refine r_put (pc' := 26) rfl rfl rfl rfl ?_
  refine r_aload (pc' := 27) rfl rfl rfl ?_
  refine r_aload (pc' := 28) rfl rfl rfl ?_
  refine r_getr (pc' := 31) (v := 62) rfl rfl rfl rfl rfl ?_
  refine r_aload (pc' := 32) rfl rfl rfl ?_
  refine r_getv (pc' := 35) (v := ((((S 61 2) + 8) - 1) % 8)) rfl rfl (Or.inl rfl) rfl rfl ?_
  refine r_aald (pc' := 36) (v := (63 + 2 * ((((S 61 2) + 8) - 1) % 8))) 103008 rfl rfl rfl rfl (by omega) rfl ?_
  refine q_callE (pc' := 39) (w := none) (S2 := tks (mx_up (mx_up S 61 2 ((((S 61 2) + 8) - 1) % 8)) 61 0 ((S 61 0) - 1)) (59) (63 + 2 * ((((S 61 2) + 8) - 1) % 8))) (st' := []) rfl rfl rfl (c_X7_takeFrom_nr (i := ((((S 61 2) + 8) - 1) % 8)) (S := mx_up (mx_up S 61 2 ((((S 61 2) + 8) - 1) % 8)) 61 0 ((S 61 0) - 1)) (Bd_up (Bd_up hB (show (0 : Int) ≤ ((((S 61 2) + 8) - 1) % 8) from by omega) (show ((((S 61 2) + 8) - 1) % 8) ≤ (7 : Int) from by omega)) (show (0 : Int) ≤ ((S 61 0) - 1) from by omega) (show ((S 61 0) - 1) ≤ (8 : Int) from by omega)) (show 0 ≤ ((((S 61 2) + 8) - 1) % 8) ∧ ((((S 61 2) + 8) - 1) % 8) < 8 from by omega)) (by decide) rfl rfl (Nat.le_of_ble_eq_true rfl) (fun _ _ => ⟨_, _, rfl, rfl⟩) rfl rfl ?_
  have hB3 : Bd (tks (mx_up (mx_up S 61 2 ((((S 61 2) + 8) - 1) % 8)) 61 0 ((S 61 0) - 1)) (59) (63 + 2 * ((((S 61 2) + 8) - 1) % 8))) := Bd_tks (Bd_up (Bd_up hB (show (0 : Int) ≤ ((((S 61 2) + 8) - 1) % 8) from by omega) (show ((((S 61 2) + 8) - 1) % 8) ≤ (7 : Int) from by omega)) (show (0 : Int) ≤ ((S 61 0) - 1) from by omega) (show ((S 61 0) - 1) ≤ (8 : Int) from by omega)) bds_59 (bds_63 (by omega))
  refine q_vret rfl rfl rfl ?_
  exact ⟨rfl, rfl⟩
/-- the state behind a text -/
def bgn (S : rS) : rS := mx_up (mx_up (mx_up (mx_up (mx_up (fl S 60 (fun kk => mx_shl 1 (S 29 kk) - 1) (S 25 0)) 59 1 0) 59 2 0) 59 3 0) 59 4 0) 59 5 0
theorem Bd_bgn {S : rS} (hB : Bd S) : Bd (bgn S) := by
  unfold bgn
  have z : (0 : Int) ≤ 0 := Int.le_refl _
  exact Bd_up (Bd_up (Bd_up (Bd_up (Bd_up (Bd_fl hB (fun k _ _ => lsb (hB 29 k))) z (show (0 : Int) ≤ 127 by omega)) z (show (0 : Int) ≤ 99 by omega)) z (show (0 : Int) ≤ 999 by omega)) z (show (0 : Int) ≤ 6 by omega)) z (show (0 : Int) ≤ 9 by omega)
theorem bgn_o {S : rS} {a j : Int} (h : ¬ (a = 59 ∨ a = 60)) : bgn S a j = S a j := by
  unfold bgn
  rw [up_ne (by omega), up_ne (by omega), up_ne (by omega), up_ne (by omega), up_ne (by omega), fl_o (by omega)]
theorem c_X7_begin {S : rS} (hB : Bd S) : CS 1 168 [.inr (.inr 59), .inr (.inr 25)] S (fun r' S' => r' = none ∧ S' = bgn S) := by
  refine RS.beg (ls := [some (.inr (.inr 59)), some (.inr (.inr 25)), none]) rfl rfl rfl rfl rfl ?_
  have b0 : 0 ≤ S 25 0 ∧ S 25 0 ≤ 7 := hB 25 0
  refine r_const (pc' := 1) rfl rfl ?_
  refine r_istore (pc' := 2) (ls' := [some (.inr (.inr 59)), some (.inr (.inr 25)), some (.inl 0)]) rfl rfl rfl rfl ?_
  refine r_mem (show S = fl S 60 (fun kk => mx_shl 1 (S 29 kk) - 1) (0 : Int) from by exact fl_0 S _ _) ?_
  refine r_while (α := Int) (fun z' => [some (.inr (.inr 59)), some (.inr (.inr 25)), some (.inl z')]) (fun z' => fl S 60 (fun kk => mx_shl 1 (S 29 kk) - 1) z') (fun z' => (0 ≤ z' ∧ z' ≤ S 25 0)) (fun z' => (S 25 0 - z').toNat) ?_ 0 (show (0 ≤ (0 : Int) ∧ (0 : Int) ≤ S 25 0) from by omega)
  rintro f hI' ih2
  have hI' : (0 ≤ f ∧ f ≤ S 25 0) := hI'
  have i1 := hI'
  show RS _ _ _ _ [some (.inr (.inr 59)), some (.inr (.inr 25)), some (.inl f)] [] (fl S 60 (fun kk => mx_shl 1 (S 29 kk) - 1) f)
  have b1 : 0 ≤ S 25 0 ∧ S 25 0 ≤ 7 := hB 25 0
  have hB2 : Bd (fl S 60 (fun kk => mx_shl 1 (S 29 kk) - 1) f) := by exact Bd_fl hB (fun k _ _ => lsb (hB 29 k))
  refine r_iload (pc' := 3) rfl rfl rfl ?_
  refine r_aload (pc' := 4) rfl rfl rfl ?_
  refine r_getv (pc' := 7) (v := (S 25 0)) rfl rfl (Or.inl rfl) rfl (fl_o (by omega)) ?_
  by_cases h3 : f < (S 25 0)
  · refine r_icmp_ge0 (pc' := 10) rfl rfl (by omega) (by omega) ?_
    refine r_aload (pc' := 11) rfl rfl rfl ?_
    refine r_getr (pc' := 14) (v := 60) rfl rfl rfl rfl rfl ?_
    refine r_iload (pc' := 15) rfl rfl rfl ?_
    refine r_const (pc' := 16) rfl rfl ?_
    refine r_aload (pc' := 17) rfl rfl rfl ?_
    refine r_getr (pc' := 20) (v := 29) rfl rfl rfl rfl rfl ?_
    refine r_iload (pc' := 21) rfl rfl rfl ?_
    refine r_aldv (pc' := 22) (v := (S 29 f)) 7 rfl rfl rfl (by omega) (fl_o (by omega)) ?_
    have b4 : 0 ≤ S 29 f ∧ S 29 f ≤ 8 := hB 29 f
    refine r_ishl (pc' := 23) rfl rfl ?_
    have b5 := mx_shl_r 1 (S 29 f)
    refine r_const (pc' := 24) rfl rfl ?_
    refine r_isub (pc' := 25) rfl rfl ?_
    refine r_ast (pc' := 26) 7 rfl rfl rfl (by omega) ?_
    refine r_iinc (pc' := 29) (ls' := [some (.inr (.inr 59)), some (.inr (.inr 25)), some (.inl (f + 1))]) rfl rfl rfl rfl rfl ?_
    refine r_goto (pc' := 2) rfl rfl ?_
    refine r_mem (show mx_up (fl S 60 (fun kk => mx_shl 1 (S 29 kk) - 1) f) 60 f ((mx_shl 1 (S 29 f)) - 1) = fl S 60 (fun kk => mx_shl 1 (S 29 kk) - 1) (f + 1) from by exact fl_s (by omega) rfl) ?_
    exact ih2 (f + 1) (show (0 ≤ (f + 1) ∧ (f + 1) ≤ S 25 0) from by omega) (show (S 25 0 - (f + 1)).toNat < (S 25 0 - f).toNat from by omega)
  · refine r_icmp_ge1 (pc' := 32) rfl rfl (by omega) (by omega) ?_
    refine r_aload (pc' := 33) rfl rfl rfl ?_
    refine r_const (pc' := 34) rfl rfl ?_
    refine r_put (pc' := 37) rfl rfl rfl rfl ?_
    refine r_aload (pc' := 38) rfl rfl rfl ?_
    refine r_const (pc' := 39) rfl rfl ?_
    refine r_put (pc' := 42) rfl rfl rfl rfl ?_
    refine r_aload (pc' := 43) rfl rfl rfl ?_
    refine r_const (pc' := 44) rfl rfl ?_
    refine r_put (pc' := 47) rfl rfl rfl rfl ?_
    refine r_aload (pc' := 48) rfl rfl rfl ?_
    refine r_const (pc' := 49) rfl rfl ?_
    refine r_put (pc' := 52) rfl rfl rfl rfl ?_
    refine r_aload (pc' := 53) rfl rfl rfl ?_
    refine r_const (pc' := 54) rfl rfl ?_
    refine r_put (pc' := 57) rfl rfl rfl rfl ?_
    refine q_vret rfl rfl rfl ?_
    obtain rfl : f = S 25 0 := by omega
    exact ⟨rfl, rfl⟩
theorem c_X6_add {f : Int} {n : Int} {m : Int} {S : rS} (hB : Bd S) (h_z : S 81 0 < 6) (h_f : 0 ≤ f ∧ f ≤ 6) (h_n : 0 ≤ n ∧ n ≤ 8) (h_m : 0 ≤ m ∧ m ≤ 60) : CS 1 165 [.inr (.inr 81), .inl f, .inl n, .inl m] S (fun r' S' => r' = none ∧ S' = mx_up (mx_up (mx_up (mx_up S 82 (S 81 0) f) 83 (S 81 0) n) 84 (S 81 0) m) 81 0 (S 81 0 + 1)) := by
  refine RS.beg (ls := [some (.inr (.inr 81)), some (.inl f), some (.inl n), some (.inl m)]) rfl rfl rfl rfl rfl ?_
  have b0 : 0 ≤ S 81 0 ∧ S 81 0 ≤ 6 := hB 81 0
  refine r_aload (pc' := 1) rfl rfl rfl ?_
  refine r_getv (pc' := 4) (v := (S 81 0)) rfl rfl (Or.inl rfl) rfl rfl ?_
  have b1 : 0 ≤ S 81 0 ∧ S 81 0 ≤ 6 := hB 81 0
  refine r_const (pc' := 6) rfl rfl ?_
  by_cases h2 : (S 81 0) < 6
  · refine r_icmp_lt1 (pc' := 10) rfl rfl (by omega) (by omega) ?_
    refine r_aload (pc' := 11) rfl rfl rfl ?_
    refine r_getr (pc' := 14) (v := 82) rfl rfl rfl rfl rfl ?_
    refine r_aload (pc' := 15) rfl rfl rfl ?_
    refine r_getv (pc' := 18) (v := (S 81 0)) rfl rfl (Or.inl rfl) rfl rfl ?_
    refine r_iload (pc' := 19) rfl rfl rfl ?_
    refine r_ast (pc' := 20) 6 rfl rfl rfl (by omega) ?_
    refine r_aload (pc' := 21) rfl rfl rfl ?_
    refine r_getr (pc' := 24) (v := 83) rfl rfl rfl rfl rfl ?_
    refine r_aload (pc' := 25) rfl rfl rfl ?_
    refine r_getv (pc' := 28) (v := (S 81 0)) rfl rfl (Or.inl rfl) rfl rfl ?_
    refine r_iload (pc' := 29) rfl rfl rfl ?_
    refine r_ast (pc' := 30) 6 rfl rfl rfl (by omega) ?_
    refine r_aload (pc' := 31) rfl rfl rfl ?_
    refine r_getr (pc' := 34) (v := 84) rfl rfl rfl rfl rfl ?_
    refine r_aload (pc' := 35) rfl rfl rfl ?_
    refine r_getv (pc' := 38) (v := (S 81 0)) rfl rfl (Or.inl rfl) rfl rfl ?_
    refine r_iload (pc' := 39) rfl rfl rfl ?_
    refine r_ast (pc' := 40) 6 rfl rfl rfl (by omega) ?_
    refine r_aload (pc' := 41) rfl rfl rfl ?_
    refine r_dupr (pc' := 42) rfl rfl ?_
    refine r_getv (pc' := 45) (v := (S 81 0)) rfl rfl (Or.inl rfl) rfl rfl ?_
    refine r_const (pc' := 46) rfl rfl ?_
    refine r_iadd (pc' := 47) rfl rfl ?_
    refine r_put (pc' := 50) rfl rfl rfl rfl ?_
    refine q_vret rfl rfl rfl ?_
    exact ⟨rfl, rfl⟩
  · refine r_icmp_lt0 (pc' := 9) rfl rfl (by omega) (by omega) ?_
    refine q_vret rfl rfl rfl ?_
    exfalso; omega
def rnw (S : rS) (s l n : Int) : rS := fl (mx_up (mx_up (mx_up S (224 + 2 * s) 0 1) (224 + 2 * s) 1 l) (224 + 2 * s) 2 n) (225 + 2 * s) (fun _ => 0) 24
theorem Bd_rnw {S : rS} (hB : Bd S) {s l n : Int} (hs : 0 ≤ s ∧ s < 4) (hl : 0 ≤ l ∧ l ≤ 2) (hn : 0 ≤ n ∧ n ≤ 24) : Bd (rnw S s l n) := by
  have b0 := bdp_2240 hs; have b1 := bdp_2241 hs; have b2 := bdp_2242 hs
  unfold rnw
  exact Bd_fl (Bd_up (Bd_up (Bd_up hB (by omega) (by omega)) (by omega) (by omega)) (by omega) (by omega)) (fun k _ _ => by have b3 := bdp_225 hs k; omega)
theorem rnw_o {S : rS} {s l n a j : Int} (h : ¬ (a = 224 + 2 * s ∨ a = 225 + 2 * s)) : rnw S s l n a j = S a j := by
  unfold rnw; rw [fl_o (by omega), up_ne (by omega), up_ne (by omega), up_ne (by omega)]
/-- the lowest bits -/
def cutl (l v : Int) : Int := if l = 0 then mx_i2b v else if l = 1 then mx_i2s v else v
theorem cutl_r {l v : Int} (h : -2147483648 ≤ v ∧ v < 2147483648) : -2147483648 ≤ cutl l v ∧ cutl l v < 2147483648 := by
  unfold cutl
  split
  · exact mx_i2b_r v
  · split
    · exact mx_i2s_r v
    · exact h
def putl (S : rS) (s i v : Int) : rS := mx_up S (225 + 2 * s) i (cutl (S (224 + 2 * s) 1) v)
theorem Bd_putl {S : rS} (hB : Bd S) {s i v : Int} (hs : 0 ≤ s ∧ s < 4) (hv : -2147483648 ≤ v ∧ v < 2147483648) : Bd (putl S s i v) := by
  have b := bdp_225 hs i
  have c := cutl_r (l := S (224 + 2 * s) 1) hv
  unfold putl
  exact Bd_up hB (by omega) (by omega)
theorem putl_o {S : rS} {s i v a j : Int} (h : ¬ (a = 225 + 2 * s)) : putl S s i v a j = S a j := up_ne (by omega)
theorem c_X5_renew {s : Int} {l : Int} {n : Int} {S : rS} (hB : Bd S) (h_s : 0 ≤ s ∧ s < 4) (h_l : 0 ≤ l ∧ l ≤ 2) (h_n : 0 ≤ n ∧ n ≤ 24) : CS 1 164 [.inr (.inr (224 + 2 * s)), .inl l, .inl n] S (fun r' S' => r' = none ∧ S' = rnw S s l n) := by
  refine RS.beg (ls := [some (.inr (.inr (224 + 2 * s))), some (.inl l), some (.inl n), none]) rfl rfl rfl rfl rfl ?_
  refine r_aload (pc' := 1) rfl rfl rfl ?_
  refine r_const (pc' := 2) rfl rfl ?_
  refine r_putz (pc' := 5) rfl rfl rfl (sho_224 (by omega)) (by omega) ?_
  refine r_aload (pc' := 6) rfl rfl rfl ?_
  refine r_iload (pc' := 7) rfl rfl rfl ?_
  refine r_put (pc' := 10) rfl rfl rfl (sho_224 (by omega)) ?_
  refine r_aload (pc' := 11) rfl rfl rfl ?_
  refine r_iload (pc' := 12) rfl rfl rfl ?_
  refine r_put (pc' := 15) rfl rfl rfl (sho_224 (by omega)) ?_
  refine r_const (pc' := 16) rfl rfl ?_
  refine r_istore (pc' := 17) (ls' := [some (.inr (.inr (224 + 2 * s))), some (.inl l), some (.inl n), some (.inl 0)]) rfl rfl rfl rfl ?_
  refine r_mem (show mx_up (mx_up (mx_up S (224 + 2 * s) 0 1) (224 + 2 * s) 1 l) (224 + 2 * s) 2 n = fl (mx_up (mx_up (mx_up S (224 + 2 * s) 0 1) (224 + 2 * s) 1 l) (224 + 2 * s) 2 n) (225 + 2 * s) (fun _ => 0) (0 : Int) from by exact fl_0 _ _ _) ?_
  refine r_while (α := Int) (fun z' => [some (.inr (.inr (224 + 2 * s))), some (.inl l), some (.inl n), some (.inl z')]) (fun z' => fl (mx_up (mx_up (mx_up S (224 + 2 * s) 0 1) (224 + 2 * s) 1 l) (224 + 2 * s) 2 n) (225 + 2 * s) (fun _ => 0) z') (fun z' => (0 ≤ z' ∧ z' ≤ 24)) (fun z' => (24 - z').toNat) ?_ 0 (show (0 ≤ (0 : Int) ∧ (0 : Int) ≤ 24) from by omega)
  rintro k hI' ih17
  have hI' : (0 ≤ k ∧ k ≤ 24) := hI'
  have i1 := hI'
  show RS _ _ _ _ [some (.inr (.inr (224 + 2 * s))), some (.inl l), some (.inl n), some (.inl k)] [] (fl (mx_up (mx_up (mx_up S (224 + 2 * s) 0 1) (224 + 2 * s) 1 l) (224 + 2 * s) 2 n) (225 + 2 * s) (fun _ => 0) k)
  refine r_iload (pc' := 18) rfl rfl rfl ?_
  refine r_const (pc' := 20) rfl rfl ?_
  by_cases h1 : k < 24
  · refine r_icmp_ge0 (pc' := 23) rfl rfl (by omega) (by omega) ?_
    refine r_aload (pc' := 24) rfl rfl rfl ?_
    refine r_getr (pc' := 27) (v := (225 + 2 * s)) rfl rfl rfl (sho_224 (by omega)) (rfo_224 (by omega)) ?_
    refine r_iload (pc' := 28) rfl rfl rfl ?_
    refine r_const (pc' := 29) rfl rfl ?_
    refine r_ast (pc' := 30) 24 rfl rfl (sho_225 (by omega)) (by omega) ?_
    refine r_iinc (pc' := 33) (ls' := [some (.inr (.inr (224 + 2 * s))), some (.inl l), some (.inl n), some (.inl (k + 1))]) rfl rfl rfl rfl rfl ?_
    refine r_goto (pc' := 17) rfl rfl ?_
    refine r_mem (show mx_up (fl (mx_up (mx_up (mx_up S (224 + 2 * s) 0 1) (224 + 2 * s) 1 l) (224 + 2 * s) 2 n) (225 + 2 * s) (fun _ => 0) k) (225 + 2 * s) k 0 = fl (mx_up (mx_up (mx_up S (224 + 2 * s) 0 1) (224 + 2 * s) 1 l) (224 + 2 * s) 2 n) (225 + 2 * s) (fun _ => 0) (k + 1) from by exact fl_s (by omega) rfl) ?_
    exact ih17 (k + 1) (show (0 ≤ (k + 1) ∧ (k + 1) ≤ 24) from by omega) (show (24 - (k + 1)).toNat < (24 - k).toNat from by omega)
  · refine r_icmp_ge1 (pc' := 36) rfl rfl (by omega) (by omega) ?_
    refine q_vret rfl rfl rfl ?_
    obtain rfl : k = 24 := by omega
    exact ⟨rfl, rfl⟩
theorem c_X5_put {s : Int} {i : Int} {v : Int} {S : rS} (hB : Bd S) (h_s : 0 ≤ s ∧ s < 4) (h_i : 0 ≤ i ∧ i < 24) (h_v : -2147483648 ≤ v ∧ v < 2147483648) : CS 1 163 [.inr (.inr (224 + 2 * s)), .inl i, .inl v] S (fun r' S' => r' = none ∧ S' = putl S s i v) := by
  refine RS.beg (ls := [some (.inr (.inr (224 + 2 * s))), some (.inl i), some (.inl v)]) rfl rfl rfl rfl rfl ?_
  refine r_aload (pc' := 1) rfl rfl rfl ?_
  refine r_getv (pc' := 4) (v := (S (224 + 2 * s) 1)) rfl rfl (Or.inl rfl) (sho_224 (by omega)) rfl ?_
  have b1 : 0 ≤ S (224 + 2 * s) 1 ∧ S (224 + 2 * s) 1 ≤ 2 := bdo_2241 hB (by omega)
  by_cases h2 : (S (224 + 2 * s) 1) = 0
  · refine r_lsw (pc' := 32) 0 rfl rfl rfl (show _ = _ from h2) ?_
    refine r_aload (pc' := 33) rfl rfl rfl ?_
    refine r_getr (pc' := 36) (v := (225 + 2 * s)) rfl rfl rfl (sho_224 (by omega)) (rfo_224 (by omega)) ?_
    refine r_iload (pc' := 37) rfl rfl rfl ?_
    refine r_iload (pc' := 38) rfl rfl rfl ?_
    refine r_i2b (pc' := 39) rfl rfl ?_
    have b3 := mx_i2b_r v
    refine r_ast (pc' := 40) 24 rfl rfl (sho_225 (by omega)) (by omega) ?_
    refine r_goto (pc' := 61) rfl rfl ?_
    refine q_vret rfl rfl rfl ?_
    exact ⟨rfl, by unfold putl cutl; rw [if_pos h2]⟩
  by_cases h4 : (S (224 + 2 * s) 1) = 1
  · refine r_lsw (pc' := 43) 1 rfl rfl rfl (show _ = _ from h4) ?_
    refine r_aload (pc' := 44) rfl rfl rfl ?_
    refine r_getr (pc' := 47) (v := (225 + 2 * s)) rfl rfl rfl (sho_224 (by omega)) (rfo_224 (by omega)) ?_
    refine r_iload (pc' := 48) rfl rfl rfl ?_
    refine r_iload (pc' := 49) rfl rfl rfl ?_
    refine r_i2s (pc' := 50) rfl rfl ?_
    have b5 := mx_i2s_r v
    refine r_ast (pc' := 51) 24 rfl rfl (sho_225 (by omega)) (by omega) ?_
    refine r_goto (pc' := 61) rfl rfl ?_
    refine q_vret rfl rfl rfl ?_
    exact ⟨rfl, by unfold putl cutl; rw [if_neg h2, if_pos h4]⟩
  refine r_lswd (pc' := 54) rfl rfl (by omega) (fun q hq => ?_) ?_
  · simp only [List.mem_cons, List.mem_nil_iff, or_false] at hq
    rcases hq with rfl | rfl <;> first | exact h2 | exact h4 | omega
  refine r_aload (pc' := 55) rfl rfl rfl ?_
  refine r_getr (pc' := 58) (v := (225 + 2 * s)) rfl rfl rfl (sho_224 (by omega)) (rfo_224 (by omega)) ?_
  refine r_iload (pc' := 59) rfl rfl rfl ?_
  refine r_iload (pc' := 60) rfl rfl rfl ?_
  refine r_ast (pc' := 61) 24 rfl rfl (sho_225 (by omega)) (by omega) ?_
  refine q_vret rfl rfl rfl ?_
  exact ⟨rfl, by unfold putl cutl; rw [if_neg h2, if_neg h4]⟩
