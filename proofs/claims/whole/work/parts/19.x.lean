theorem c_X9_isOpen {g : Int} {S : rS} (hB : Bd S) (h_g : 0 ≤ g ∧ g < 128) : CS 1 189 [.inr (.inr 85), .inl g] S (fun r' S' => r' = some (.inl (bi (mx_and g (mx_xor (S 85 3) (-1)) = 0))) ∧ S' = S) := by
  refine RS.beg (ls := [some (.inr (.inr 85)), some (.inl g)]) rfl rfl rfl rfl rfl ?_
  refine r_iload (pc' := 1) rfl rfl rfl ?_
  refine r_aload (pc' := 2) rfl rfl rfl ?_
  refine r_getv (pc' := 5) (v := (S 85 3)) rfl rfl (Or.inl rfl) rfl rfl ?_
  have b1 : 0 ≤ S 85 3 ∧ S 85 3 ≤ 127 := hB 85 3
  refine r_const (pc' := 6) rfl rfl ?_
  refine r_ixor (pc' := 7) rfl rfl ?_
  have b2 := mx_xor_r (S 85 3) (-1)
  refine r_iand (pc' := 8) rfl rfl ?_
  have b3 := mx_and_r g (mx_xor (S 85 3) (-1))
  by_cases h4 : (mx_and g (mx_xor (S 85 3) (-1))) = 0
  · refine r_if_ne0 (pc' := 11) rfl rfl (by omega) (by omega) ?_
    refine r_const (pc' := 12) rfl rfl ?_
    refine r_goto (pc' := 16) rfl rfl ?_
    refine q_zret rfl rfl rfl (by omega) ?_
    exact ⟨bi_t (by omega), rfl⟩
  · refine r_if_ne1 (pc' := 15) rfl rfl (by omega) (by omega) ?_
    refine r_const (pc' := 16) rfl rfl ?_
    refine q_zret rfl rfl rfl (by omega) ?_
    exact ⟨bi_f (by omega), rfl⟩
theorem wor_b {S : rS} (hB : Bd S) {g : Int} : 0 ≤ sm (fun kk => if tb g kk then S 87 kk else 0) (S 25 0) ∧ sm (fun kk => if tb g kk then S 87 kk else 0) (S 25 0) ≤ 56 := by
  have b : 0 ≤ S 25 0 ∧ S 25 0 ≤ 7 := hB 25 0
  obtain ⟨n, hn⟩ := Int.eq_ofNat_of_zero_le b.1
  have := sm_b (g := fun kk => if tb g kk then S 87 kk else 0) (n := n) (m := 8) (fun k _ _ => by
    have q : 0 ≤ S 87 k ∧ S 87 k ≤ 8 := hB 87 k
    split <;> omega) n (Nat.le_refl _)
  rw [hn]
  have : (n : Int) ≤ 7 := by omega
  constructor <;> omega
def ffr (S : rS) (g a : Int) : Int := fo (fun kk xx => if tb g kk then mx_min xx (S (52 + a) kk + S 88 kk + S (90 + mx_and g (mx_xor (mx_shl 1 kk) (-1))) kk) else xx) (if g = 0 then 0 else 1000000) (S 25 0).toNat
theorem ffr_b {S : rS} (hB : Bd S) {g a : Int} (hg : 0 ≤ g ∧ g < 128) (ha : 0 ≤ a ∧ a < 7) : 0 ≤ ffr S g a ∧ ffr S g a ≤ 1000000 := by
  have b : 0 ≤ S 25 0 ∧ S 25 0 ≤ 7 := hB 25 0
  obtain ⟨n, hn⟩ := Int.eq_ofNat_of_zero_le b.1
  unfold ffr
  rw [hn]
  refine fo_ind (P := fun _ x => 0 ≤ x ∧ x ≤ 1000000) ?_ (N := n) ?_ n (Nat.le_refl _)
  · split <;> omega
  · intro k s h0 h1 hs
    have e : 0 ≤ mx_and g (mx_xor (mx_shl 1 k) (-1)) ∧ mx_and g (mx_xor (mx_shl 1 k) (-1)) < 128 := and_u 7 (by omega) (by omega) (by omega)
    have q1 := bdr_90 hB e k
    have q2 := bdr_52 hB ha k
    have q3 : 0 ≤ S 88 k ∧ S 88 k ≤ 34 := hB 88 k
    split
    · have := mx_min_b s (S (52 + a) k + S 88 k + S (90 + mx_and g (mx_xor (mx_shl 1 k) (-1))) k)
      omega
    · exact hs
/-- a set by which one can go on -/
def cgo (S : rS) (g a m x : Int) : Prop := S 218 x = S 85 2 ∧ pop x = S 85 1 ∧ mx_and x g = g ∧ m + S (90 + mx_and x (mx_xor g (-1))) a ≤ S 25 13
/-- powers, choices -/
def pw (b : Int) (n : Int) : Int := fo (fun _ xx => xx * b) 1 n.toNat
def chs (a t : Int) (n : Nat) : Int := fo (fun kk xx => xx * (a - t + (kk + 1)) / (kk + 1)) 1 n
theorem chs_bn : ∀ a t k : Fin 9, t.val ≤ a.val → k.val ≤ t.val → 0 ≤ chs a.val t.val k.val ∧ chs a.val t.val k.val ≤ 1000 := by decide +kernel
theorem chs_b {a t k : Int} (h : (0 ≤ k ∧ k ≤ t) ∧ t ≤ a ∧ a ≤ 8) : 0 ≤ chs a t k.toNat ∧ chs a t k.toNat ≤ 1000 := by
  obtain ⟨a', rfl⟩ := Int.eq_ofNat_of_zero_le (show 0 ≤ a by omega)
  obtain ⟨t', rfl⟩ := Int.eq_ofNat_of_zero_le (show 0 ≤ t by omega)
  obtain ⟨k', rfl⟩ := Int.eq_ofNat_of_zero_le h.1.1
  exact chs_bn ⟨a', by omega⟩ ⟨t', by omega⟩ ⟨k', by omega⟩ (by show t' ≤ a'; omega) (by show k' ≤ t'; omega)
theorem mul_b {p x : Int} (h : 0 ≤ p ∧ p ≤ 1000) (hx : 0 ≤ x ∧ x ≤ 20) : 0 ≤ p * x ∧ p * x < 9223372036854775808 := by
  refine ⟨Int.mul_nonneg h.1 hx.1, ?_⟩
  have := Int.mul_le_mul h.2 hx.2 hx.1 (by omega)
  omega
def wam (m a q : Int) : Int := fo (fun kk xx => xx + chs a kk kk.toNat * pw q kk * pw (10 - q) (a - kk)) 0 (mx_min m a + 1).toNat
theorem gst {a b : Int} (h : 0 < b) (hb : b ≤ a) : 2 * (b * (a % b)) ≤ a * b := by
  have h1 := Int.emod_lt_of_pos a h
  have h0 := Int.emod_nonneg a (show b ≠ 0 by omega)
  have hq := Int.mul_ediv_add_emod a b
  have hd : 1 ≤ a / b := (Int.le_ediv_iff_mul_le h).mpr (by omega)
  have h2 : b * 1 ≤ b * (a / b) := Int.mul_le_mul_of_nonneg_left hd (by omega)
  have h3 : 2 * (a % b) ≤ a := by omega
  have h4 := Int.mul_le_mul_of_nonneg_right h3 (show 0 ≤ b by omega)
  have h5 : 2 * (b * (a % b)) = 2 * (a % b) * b := by rw [Int.mul_assoc, Int.mul_comm b]
  omega
def gc (a b : Int) : Int := (Nat.gcd a.toNat b.toNat : Nat)
theorem gc_s {a b : Int} (ha : 0 ≤ a) (hb : 0 ≤ b) : gc b (a % b) = gc a b := by
  obtain ⟨x, rfl⟩ := Int.eq_ofNat_of_zero_le ha
  obtain ⟨y, rfl⟩ := Int.eq_ofNat_of_zero_le hb
  unfold gc
  show ((Nat.gcd y (x % y) : Nat) : Int) = ((Nat.gcd x y : Nat) : Int)
  rw [Nat.gcd_comm x y, Nat.gcd_rec y x, Nat.gcd_comm]
theorem gc_0 {a : Int} (h : 0 ≤ a) : gc a 0 = a := by
  obtain ⟨x, rfl⟩ := Int.eq_ofNat_of_zero_le h
  unfold gc
  show ((Nat.gcd x 0 : Nat) : Int) = x
  rw [Nat.gcd_zero_right]
/-- the rounds that are left -/
theorem gc_r {a b n : Int} (hn : 0 ≤ n) (h : a * b * 2 ^ n.toNat ≤ 2 ^ 60) (hb : 0 < b) (ha : b ≤ a) : b * (a % b) * 2 ^ (n + 1).toNat ≤ 2 ^ 60 := by
  have e : (n + 1).toNat = n.toNat + 1 := by omega
  rw [e, Int.pow_succ]
  have h1 := gst hb ha
  have h2 : (0 : Int) ≤ 2 ^ n.toNat := Int.pow_nonneg (by omega)
  have h3 := Int.mul_le_mul_of_nonneg_right h1 h2
  have h4 : b * (a % b) * (2 ^ n.toNat * 2) = 2 * (b * (a % b)) * 2 ^ n.toNat := by
    rw [Int.mul_comm (2 ^ n.toNat) 2, ← Int.mul_assoc, Int.mul_comm (b * (a % b)) 2]
  omega
theorem gc_z {a b n : Int} (hn : 60 < n) (h : a * b * 2 ^ n.toNat ≤ 2 ^ 60) (ha : b ≤ a) (hb : 0 ≤ b) : b = 0 := by
  rcases Int.lt_or_eq_of_le hb with h0 | h0
  · exfalso
    have h1 : 1 ≤ a * b := by
      have := Int.mul_le_mul (show (1 : Int) ≤ a by omega) (show (1 : Int) ≤ b by omega) (by omega) (by omega)
      omega
    have h2 : (0 : Int) ≤ 2 ^ n.toNat := Int.pow_nonneg (by omega)
    have h3 := Int.mul_le_mul_of_nonneg_right h1 h2
    have h4 : ((2 ^ 61 : Nat) : Int) ≤ ((2 ^ n.toNat : Nat) : Int) := Int.ofNat_le.mpr (Nat.pow_le_pow_right (by omega) (by omega))
    have h5 : ((2 ^ n.toNat : Nat) : Int) = (2 : Int) ^ n.toNat := by rw [Int.natCast_pow]; rfl
    have h6 : ((2 ^ 61 : Nat) : Int) = 2305843009213693952 := rfl
    have h7 : (2 : Int) ^ 60 = 1152921504606846976 := rfl
    omega
  · omega
theorem c_X9_worthOf {g : Int} {S : rS} (hB : Bd S) (h_g : 0 ≤ g ∧ g < 128) : CS 1 193 [.inr (.inr 85), .inr (.inr 25), .inl g] S (fun r' S' => r' = some (.inl (sm (fun kk => if tb g kk then S 87 kk else 0) (S 25 0))) ∧ S' = S) := by
  refine RS.beg (ls := [some (.inr (.inr 85)), some (.inr (.inr 25)), some (.inl g), none, none]) rfl rfl rfl rfl rfl ?_
  have b0 : 0 ≤ S 25 0 ∧ S 25 0 ≤ 7 := hB 25 0
  refine r_const (pc' := 1) rfl rfl ?_
  refine r_istore (pc' := 2) (ls' := [some (.inr (.inr 85)), some (.inr (.inr 25)), some (.inl g), some (.inl 0), none]) rfl rfl rfl rfl ?_
  refine r_const (pc' := 3) rfl rfl ?_
  refine r_istore (pc' := 5) (ls' := [some (.inr (.inr 85)), some (.inr (.inr 25)), some (.inl g), some (.inl 0), some (.inl 0)]) rfl rfl rfl rfl ?_
  refine r_while (α := Int × Int) (fun z' => [some (.inr (.inr 85)), some (.inr (.inr 25)), some (.inl g), some (.inl z'.2), some (.inl z'.1)]) (fun z' => S) (fun z' => (0 ≤ z'.1 ∧ z'.1 ≤ S 25 0) ∧ (z'.2 = sm (fun kk => if tb g kk then S 87 kk else 0) z'.1)) (fun z' => (S 25 0 - z'.1).toNat) ?_ (0, 0) (show (0 ≤ (0 : Int) ∧ (0 : Int) ≤ S 25 0) ∧ ((0 : Int) = sm (fun kk => if tb g kk then S 87 kk else 0) (0 : Int)) from by exact ⟨by omega, rfl⟩)
  rintro ⟨f, s⟩ hI' ih5
  have hI' : (0 ≤ f ∧ f ≤ S 25 0) ∧ (s = sm (fun kk => if tb g kk then S 87 kk else 0) f) := hI'
  obtain ⟨i1, i2⟩ := hI'
  show RS _ _ _ _ [some (.inr (.inr 85)), some (.inr (.inr 25)), some (.inl g), some (.inl s), some (.inl f)] [] S
  have b1 : 0 ≤ S 25 0 ∧ S 25 0 ≤ 7 := hB 25 0
  refine r_iload (pc' := 7) rfl rfl rfl ?_
  refine r_aload (pc' := 8) rfl rfl rfl ?_
  refine r_getv (pc' := 11) (v := (S 25 0)) rfl rfl (Or.inl rfl) rfl rfl ?_
  by_cases h2 : f < (S 25 0)
  · refine r_icmp_ge0 (pc' := 14) rfl rfl (by omega) (by omega) ?_
    refine r_iload (pc' := 15) rfl rfl rfl ?_
    refine r_iload (pc' := 17) rfl rfl rfl ?_
    refine r_ishr (pc' := 18) rfl rfl ?_
    have b3 := mx_shr_r g f
    refine r_const (pc' := 19) rfl rfl ?_
    refine r_iand (pc' := 20) rfl rfl ?_
    have b4 := mx_and_r (mx_shr g f) 1
    refine r_const (pc' := 21) rfl rfl ?_
    by_cases h5 : tb g f
    · refine r_icmp_ne0 (pc' := 24) rfl rfl (by omega) ((b_tst (by omega)).mpr h5) ?_
      refine r_iload (pc' := 25) rfl rfl rfl ?_
      refine r_aload (pc' := 26) rfl rfl rfl ?_
      refine r_getr (pc' := 29) (v := 87) rfl rfl rfl rfl rfl ?_
      refine r_iload (pc' := 31) rfl rfl rfl ?_
      refine r_aldv (pc' := 32) (v := (S 87 f)) 7 rfl rfl rfl (by omega) rfl ?_
      have b6 : 0 ≤ S 87 f ∧ S 87 f ≤ 8 := hB 87 f
      refine r_iadd (pc' := 33) rfl rfl ?_
      refine r_istore (pc' := 34) (ls' := [some (.inr (.inr 85)), some (.inr (.inr 25)), some (.inl g), some (.inl (s + (S 87 f))), some (.inl f)]) rfl rfl rfl rfl ?_
      refine r_iinc (pc' := 37) (ls' := [some (.inr (.inr 85)), some (.inr (.inr 25)), some (.inl g), some (.inl (s + (S 87 f))), some (.inl (f + 1))]) rfl rfl rfl rfl rfl ?_
      refine r_goto (pc' := 5) rfl rfl ?_
      exact ih5 ((f + 1), (s + (S 87 f))) (show (0 ≤ (f + 1) ∧ (f + 1) ≤ S 25 0) ∧ ((s + (S 87 f)) = sm (fun kk => if tb g kk then S 87 kk else 0) (f + 1)) from by exact ⟨by omega, by rw [i2, sm_s (by omega)]; rw [if_pos h5]⟩) (show (S 25 0 - (f + 1)).toNat < (S 25 0 - f).toNat from by omega)
    · refine r_icmp_ne1 (pc' := 34) rfl rfl (by omega) (fun q => h5 ((b_tst (by omega)).mp q)) ?_
      refine r_iinc (pc' := 37) (ls' := [some (.inr (.inr 85)), some (.inr (.inr 25)), some (.inl g), some (.inl s), some (.inl (f + 1))]) rfl rfl rfl rfl rfl ?_
      refine r_goto (pc' := 5) rfl rfl ?_
      exact ih5 ((f + 1), s) (show (0 ≤ (f + 1) ∧ (f + 1) ≤ S 25 0) ∧ (s = sm (fun kk => if tb g kk then S 87 kk else 0) (f + 1)) from by exact ⟨by omega, by rw [i2, sm_s (by omega)]; rw [if_neg h5, Int.add_zero]⟩) (show (S 25 0 - (f + 1)).toNat < (S 25 0 - f).toNat from by omega)
  · refine r_icmp_ge1 (pc' := 40) rfl rfl (by omega) (by omega) ?_
    refine r_iload (pc' := 41) rfl rfl rfl ?_
    refine q_iret rfl rfl rfl ?_
    obtain rfl : f = S 25 0 := by omega
    exact ⟨by rw [i2], rfl⟩
theorem c_X9_fewestFrom {g : Int} {a : Int} {S : rS} (hB : Bd S) (h_g : 0 ≤ g ∧ g < 128) (h_a : 0 ≤ a ∧ a < 7) : CS 1 184 [.inr (.inr 85), .inr (.inr 25), .inl g, .inl a] S (fun r' S' => r' = some (.inl (ffr S g a)) ∧ S' = S) := by
  refine RS.beg (ls := [some (.inr (.inr 85)), some (.inr (.inr 25)), some (.inl g), some (.inl a), none, none, none]) rfl rfl rfl rfl rfl ?_
  have b0 : 0 ≤ S 25 0 ∧ S 25 0 ≤ 7 := hB 25 0
  refine r_iload (pc' := 1) rfl rfl rfl ?_
  by_cases h1 : g = 0
  · refine r_if_ne0 (pc' := 4) rfl rfl (by omega) (by omega) ?_
    refine r_const (pc' := 5) rfl rfl ?_
    refine r_goto (pc' := 10) rfl rfl ?_
    refine r_istore (pc' := 12) (ls' := [some (.inr (.inr 85)), some (.inr (.inr 25)), some (.inl g), some (.inl a), some (.inl 0), none, none]) rfl rfl rfl rfl ?_
    refine r_const (pc' := 13) rfl rfl ?_
    refine r_istore (pc' := 15) (ls' := [some (.inr (.inr 85)), some (.inr (.inr 25)), some (.inl g), some (.inl a), some (.inl 0), some (.inl 0), none]) rfl rfl rfl rfl ?_
    refine r_while (α := Int × Int) (fun z' => [some (.inr (.inr 85)), some (.inr (.inr 25)), some (.inl g), some (.inl a), some (.inl z'.2), some (.inl z'.1), none]) (fun z' => S) (fun z' => (0 ≤ z'.1 ∧ z'.1 ≤ S 25 0) ∧ (0 ≤ z'.2 ∧ z'.2 ≤ 1000000) ∧ (z'.2 = fo (fun kk xx => if tb g kk then mx_min xx (S (52 + a) kk + S 88 kk + S (90 + mx_and g (mx_xor (mx_shl 1 kk) (-1))) kk) else xx) (if g = 0 then 0 else 1000000) (z'.1).toNat)) (fun z' => (S 25 0 - z'.1).toNat) ?_ (0, 0) (show (0 ≤ (0 : Int) ∧ (0 : Int) ≤ S 25 0) ∧ (0 ≤ (0 : Int) ∧ (0 : Int) ≤ 1000000) ∧ ((0 : Int) = fo (fun kk xx => if tb g kk then mx_min xx (S (52 + a) kk + S 88 kk + S (90 + mx_and g (mx_xor (mx_shl 1 kk) (-1))) kk) else xx) (if g = 0 then 0 else 1000000) (0 : Int).toNat) from by exact ⟨by omega, by omega, by first | (rw [if_pos (by assumption)]; rfl) | (rw [if_neg (by assumption)]; rfl)⟩)
    rintro ⟨f, s⟩ hI' ih15
    have hI' : (0 ≤ f ∧ f ≤ S 25 0) ∧ (0 ≤ s ∧ s ≤ 1000000) ∧ (s = fo (fun kk xx => if tb g kk then mx_min xx (S (52 + a) kk + S 88 kk + S (90 + mx_and g (mx_xor (mx_shl 1 kk) (-1))) kk) else xx) (if g = 0 then 0 else 1000000) f.toNat) := hI'
    obtain ⟨i1, i3, i2⟩ := hI'
    show RS _ _ _ _ [some (.inr (.inr 85)), some (.inr (.inr 25)), some (.inl g), some (.inl a), some (.inl s), some (.inl f), none] [] S
    have b2 : 0 ≤ S 25 0 ∧ S 25 0 ≤ 7 := hB 25 0
    refine r_iload (pc' := 17) rfl rfl rfl ?_
    refine r_aload (pc' := 18) rfl rfl rfl ?_
    refine r_getv (pc' := 21) (v := (S 25 0)) rfl rfl (Or.inl rfl) rfl rfl ?_
    by_cases h3 : f < (S 25 0)
    · refine r_icmp_ge0 (pc' := 24) rfl rfl (by omega) (by omega) ?_
      refine r_iload (pc' := 25) rfl rfl rfl ?_
      refine r_iload (pc' := 27) rfl rfl rfl ?_
      refine r_ishr (pc' := 28) rfl rfl ?_
      have b4 := mx_shr_r g f
      refine r_const (pc' := 29) rfl rfl ?_
      refine r_iand (pc' := 30) rfl rfl ?_
      have b5 := mx_and_r (mx_shr g f) 1
      refine r_const (pc' := 31) rfl rfl ?_
      by_cases h6 : tb g f
      · refine r_icmp_ne0 (pc' := 34) rfl rfl (by omega) ((b_tst (by omega)).mpr h6) ?_
        refine r_aload (pc' := 35) rfl rfl rfl ?_
        refine r_getr (pc' := 38) (v := 51) rfl rfl rfl rfl rfl ?_
        refine r_iload (pc' := 39) rfl rfl rfl ?_
        refine r_aald (pc' := 40) (v := (52 + a)) 102007 rfl rfl rfl rfl (by omega) rfl ?_
        refine r_iload (pc' := 42) rfl rfl rfl ?_
        refine r_aldv (pc' := 43) (v := (S (52 + a) f)) 7 rfl rfl (shr_52 (by omega)) (by omega) rfl ?_
        have b7 : 0 ≤ S (52 + a) f ∧ S (52 + a) f ≤ 1000000 := bdr_52 hB (by omega) f
        refine r_aload (pc' := 44) rfl rfl rfl ?_
        refine r_getr (pc' := 47) (v := 88) rfl rfl rfl rfl rfl ?_
        refine r_iload (pc' := 49) rfl rfl rfl ?_
        refine r_aldv (pc' := 50) (v := (S 88 f)) 7 rfl rfl rfl (by omega) rfl ?_
        have b8 : 0 ≤ S 88 f ∧ S 88 f ≤ 34 := hB 88 f
        refine r_iadd (pc' := 51) rfl rfl ?_
        refine r_aload (pc' := 52) rfl rfl rfl ?_
        refine r_getr (pc' := 55) (v := 89) rfl rfl rfl rfl rfl ?_
        refine r_iload (pc' := 56) rfl rfl rfl ?_
        refine r_const (pc' := 57) rfl rfl ?_
        refine r_iload (pc' := 59) rfl rfl rfl ?_
        refine r_ishl (pc' := 60) rfl rfl ?_
        have b9 := mx_shl_r 1 f
        refine r_const (pc' := 61) rfl rfl ?_
        refine r_ixor (pc' := 62) rfl rfl ?_
        have b10 := mx_xor_r (mx_shl 1 f) (-1)
        refine r_iand (pc' := 63) rfl rfl ?_
        have b11 := mx_and_r g (mx_xor (mx_shl 1 f) (-1))
        have e12 : 0 ≤ mx_and g (mx_xor (mx_shl 1 f) (-1)) ∧ mx_and g (mx_xor (mx_shl 1 f) (-1)) < 128 := and_u (a := g) (b := (mx_xor (mx_shl 1 f) (-1))) 7 (by omega) (by omega) (by omega)
        refine r_aald (pc' := 64) (v := (90 + (mx_and g (mx_xor (mx_shl 1 f) (-1))))) 102128 rfl rfl rfl rfl (by omega) rfl ?_
        refine r_iload (pc' := 66) rfl rfl rfl ?_
        refine r_aldv (pc' := 67) (v := (S (90 + (mx_and g (mx_xor (mx_shl 1 f) (-1)))) f)) 7 rfl rfl (shr_90 (by omega)) (by omega) rfl ?_
        have b13 : 0 ≤ S (90 + (mx_and g (mx_xor (mx_shl 1 f) (-1)))) f ∧ S (90 + (mx_and g (mx_xor (mx_shl 1 f) (-1)))) f ≤ 1000000 := bdr_90 hB (by omega) f
        refine r_iadd (pc' := 68) rfl rfl ?_
        refine r_istore (pc' := 70) (ls' := [some (.inr (.inr 85)), some (.inr (.inr 25)), some (.inl g), some (.inl a), some (.inl s), some (.inl f), some (.inl (((S (52 + a) f) + (S 88 f)) + (S (90 + (mx_and g (mx_xor (mx_shl 1 f) (-1)))) f)))]) rfl rfl rfl rfl ?_
        refine r_iload (pc' := 72) rfl rfl rfl ?_
        refine r_iload (pc' := 74) rfl rfl rfl ?_
        refine r_min (pc' := 77) rfl rfl ⟨by omega, by decide⟩ ?_
        have b14 := mx_min_b s (((S (52 + a) f) + (S 88 f)) + (S (90 + (mx_and g (mx_xor (mx_shl 1 f) (-1)))) f))
        refine r_istore (pc' := 79) (ls' := [some (.inr (.inr 85)), some (.inr (.inr 25)), some (.inl g), some (.inl a), some (.inl (mx_min s (((S (52 + a) f) + (S 88 f)) + (S (90 + (mx_and g (mx_xor (mx_shl 1 f) (-1)))) f)))), some (.inl f), some (.inl (((S (52 + a) f) + (S 88 f)) + (S (90 + (mx_and g (mx_xor (mx_shl 1 f) (-1)))) f)))]) rfl rfl rfl rfl ?_
        refine r_iinc (pc' := 82) (ls' := [some (.inr (.inr 85)), some (.inr (.inr 25)), some (.inl g), some (.inl a), some (.inl (mx_min s (((S (52 + a) f) + (S 88 f)) + (S (90 + (mx_and g (mx_xor (mx_shl 1 f) (-1)))) f)))), some (.inl (f + 1)), some (.inl (((S (52 + a) f) + (S 88 f)) + (S (90 + (mx_and g (mx_xor (mx_shl 1 f) (-1)))) f)))]) rfl rfl rfl rfl rfl ?_
        refine r_goto (pc' := 15) rfl rfl ?_
        refine r_forget [true, true, true, true, true, true, false] rfl ?_
        exact ih15 ((f + 1), (mx_min s (((S (52 + a) f) + (S 88 f)) + (S (90 + (mx_and g (mx_xor (mx_shl 1 f) (-1)))) f)))) (show (0 ≤ (f + 1) ∧ (f + 1) ≤ S 25 0) ∧ (0 ≤ (mx_min s (((S (52 + a) f) + (S 88 f)) + (S (90 + (mx_and g (mx_xor (mx_shl 1 f) (-1)))) f))) ∧ (mx_min s (((S (52 + a) f) + (S 88 f)) + (S (90 + (mx_and g (mx_xor (mx_shl 1 f) (-1)))) f))) ≤ 1000000) ∧ ((mx_min s (((S (52 + a) f) + (S 88 f)) + (S (90 + (mx_and g (mx_xor (mx_shl 1 f) (-1)))) f))) = fo (fun kk xx => if tb g kk then mx_min xx (S (52 + a) kk + S 88 kk + S (90 + mx_and g (mx_xor (mx_shl 1 kk) (-1))) kk) else xx) (if g = 0 then 0 else 1000000) (f + 1).toNat) from by exact ⟨by omega, by omega, by rw [fo_s (by omega), ← i2]; exact (if_pos h6).symm⟩) (show (S 25 0 - (f + 1)).toNat < (S 25 0 - f).toNat from by omega)
      · refine r_icmp_ne1 (pc' := 79) rfl rfl (by omega) (fun q => h6 ((b_tst (by omega)).mp q)) ?_
        refine r_iinc (pc' := 82) (ls' := [some (.inr (.inr 85)), some (.inr (.inr 25)), some (.inl g), some (.inl a), some (.inl s), some (.inl (f + 1)), none]) rfl rfl rfl rfl rfl ?_
        refine r_goto (pc' := 15) rfl rfl ?_
        exact ih15 ((f + 1), s) (show (0 ≤ (f + 1) ∧ (f + 1) ≤ S 25 0) ∧ (0 ≤ s ∧ s ≤ 1000000) ∧ (s = fo (fun kk xx => if tb g kk then mx_min xx (S (52 + a) kk + S 88 kk + S (90 + mx_and g (mx_xor (mx_shl 1 kk) (-1))) kk) else xx) (if g = 0 then 0 else 1000000) (f + 1).toNat) from by exact ⟨by omega, by omega, by rw [fo_s (by omega), ← i2]; exact (if_neg h6).symm⟩) (show (S 25 0 - (f + 1)).toNat < (S 25 0 - f).toNat from by omega)
    · refine r_icmp_ge1 (pc' := 85) rfl rfl (by omega) (by omega) ?_
      refine r_iload (pc' := 87) rfl rfl rfl ?_
      refine q_iret rfl rfl rfl ?_
      have e : f.toNat = (S 25 0).toNat := by omega
      exact ⟨by rw [i2, e]; rfl, rfl⟩
  · refine r_if_ne1 (pc' := 8) rfl rfl (by omega) (by omega) ?_
    refine r_const (pc' := 10) rfl rfl ?_
    refine r_istore (pc' := 12) (ls' := [some (.inr (.inr 85)), some (.inr (.inr 25)), some (.inl g), some (.inl a), some (.inl 1000000), none, none]) rfl rfl rfl rfl ?_
    refine r_const (pc' := 13) rfl rfl ?_
    refine r_istore (pc' := 15) (ls' := [some (.inr (.inr 85)), some (.inr (.inr 25)), some (.inl g), some (.inl a), some (.inl 1000000), some (.inl 0), none]) rfl rfl rfl rfl ?_
    refine r_while (α := Int × Int) (fun z' => [some (.inr (.inr 85)), some (.inr (.inr 25)), some (.inl g), some (.inl a), some (.inl z'.2), some (.inl z'.1), none]) (fun z' => S) (fun z' => (0 ≤ z'.1 ∧ z'.1 ≤ S 25 0) ∧ (0 ≤ z'.2 ∧ z'.2 ≤ 1000000) ∧ (z'.2 = fo (fun kk xx => if tb g kk then mx_min xx (S (52 + a) kk + S 88 kk + S (90 + mx_and g (mx_xor (mx_shl 1 kk) (-1))) kk) else xx) (if g = 0 then 0 else 1000000) (z'.1).toNat)) (fun z' => (S 25 0 - z'.1).toNat) ?_ (0, 1000000) (show (0 ≤ (0 : Int) ∧ (0 : Int) ≤ S 25 0) ∧ (0 ≤ (1000000 : Int) ∧ (1000000 : Int) ≤ 1000000) ∧ ((1000000 : Int) = fo (fun kk xx => if tb g kk then mx_min xx (S (52 + a) kk + S 88 kk + S (90 + mx_and g (mx_xor (mx_shl 1 kk) (-1))) kk) else xx) (if g = 0 then 0 else 1000000) (0 : Int).toNat) from by exact ⟨by omega, by omega, by first | (rw [if_pos (by assumption)]; rfl) | (rw [if_neg (by assumption)]; rfl)⟩)
    rintro ⟨f, s⟩ hI' ih15
    have hI' : (0 ≤ f ∧ f ≤ S 25 0) ∧ (0 ≤ s ∧ s ≤ 1000000) ∧ (s = fo (fun kk xx => if tb g kk then mx_min xx (S (52 + a) kk + S 88 kk + S (90 + mx_and g (mx_xor (mx_shl 1 kk) (-1))) kk) else xx) (if g = 0 then 0 else 1000000) f.toNat) := hI'
    obtain ⟨i1, i3, i2⟩ := hI'
    show RS _ _ _ _ [some (.inr (.inr 85)), some (.inr (.inr 25)), some (.inl g), some (.inl a), some (.inl s), some (.inl f), none] [] S
    have b15 : 0 ≤ S 25 0 ∧ S 25 0 ≤ 7 := hB 25 0
    refine r_iload (pc' := 17) rfl rfl rfl ?_
    refine r_aload (pc' := 18) rfl rfl rfl ?_
    refine r_getv (pc' := 21) (v := (S 25 0)) rfl rfl (Or.inl rfl) rfl rfl ?_
    by_cases h16 : f < (S 25 0)
    · refine r_icmp_ge0 (pc' := 24) rfl rfl (by omega) (by omega) ?_
      refine r_iload (pc' := 25) rfl rfl rfl ?_
      refine r_iload (pc' := 27) rfl rfl rfl ?_
      refine r_ishr (pc' := 28) rfl rfl ?_
      have b17 := mx_shr_r g f
      refine r_const (pc' := 29) rfl rfl ?_
      refine r_iand (pc' := 30) rfl rfl ?_
      have b18 := mx_and_r (mx_shr g f) 1
      refine r_const (pc' := 31) rfl rfl ?_
      by_cases h19 : tb g f
      · refine r_icmp_ne0 (pc' := 34) rfl rfl (by omega) ((b_tst (by omega)).mpr h19) ?_
        refine r_aload (pc' := 35) rfl rfl rfl ?_
        refine r_getr (pc' := 38) (v := 51) rfl rfl rfl rfl rfl ?_
        refine r_iload (pc' := 39) rfl rfl rfl ?_
        refine r_aald (pc' := 40) (v := (52 + a)) 102007 rfl rfl rfl rfl (by omega) rfl ?_
        refine r_iload (pc' := 42) rfl rfl rfl ?_
        refine r_aldv (pc' := 43) (v := (S (52 + a) f)) 7 rfl rfl (shr_52 (by omega)) (by omega) rfl ?_
        have b20 : 0 ≤ S (52 + a) f ∧ S (52 + a) f ≤ 1000000 := bdr_52 hB (by omega) f
        refine r_aload (pc' := 44) rfl rfl rfl ?_
        refine r_getr (pc' := 47) (v := 88) rfl rfl rfl rfl rfl ?_
        refine r_iload (pc' := 49) rfl rfl rfl ?_
        refine r_aldv (pc' := 50) (v := (S 88 f)) 7 rfl rfl rfl (by omega) rfl ?_
        have b21 : 0 ≤ S 88 f ∧ S 88 f ≤ 34 := hB 88 f
        refine r_iadd (pc' := 51) rfl rfl ?_
        refine r_aload (pc' := 52) rfl rfl rfl ?_
        refine r_getr (pc' := 55) (v := 89) rfl rfl rfl rfl rfl ?_
        refine r_iload (pc' := 56) rfl rfl rfl ?_
        refine r_const (pc' := 57) rfl rfl ?_
        refine r_iload (pc' := 59) rfl rfl rfl ?_
        refine r_ishl (pc' := 60) rfl rfl ?_
        have b22 := mx_shl_r 1 f
        refine r_const (pc' := 61) rfl rfl ?_
        refine r_ixor (pc' := 62) rfl rfl ?_
        have b23 := mx_xor_r (mx_shl 1 f) (-1)
        refine r_iand (pc' := 63) rfl rfl ?_
        have b24 := mx_and_r g (mx_xor (mx_shl 1 f) (-1))
        have e25 : 0 ≤ mx_and g (mx_xor (mx_shl 1 f) (-1)) ∧ mx_and g (mx_xor (mx_shl 1 f) (-1)) < 128 := and_u (a := g) (b := (mx_xor (mx_shl 1 f) (-1))) 7 (by omega) (by omega) (by omega)
        refine r_aald (pc' := 64) (v := (90 + (mx_and g (mx_xor (mx_shl 1 f) (-1))))) 102128 rfl rfl rfl rfl (by omega) rfl ?_
        refine r_iload (pc' := 66) rfl rfl rfl ?_
        refine r_aldv (pc' := 67) (v := (S (90 + (mx_and g (mx_xor (mx_shl 1 f) (-1)))) f)) 7 rfl rfl (shr_90 (by omega)) (by omega) rfl ?_
        have b26 : 0 ≤ S (90 + (mx_and g (mx_xor (mx_shl 1 f) (-1)))) f ∧ S (90 + (mx_and g (mx_xor (mx_shl 1 f) (-1)))) f ≤ 1000000 := bdr_90 hB (by omega) f
        refine r_iadd (pc' := 68) rfl rfl ?_
        refine r_istore (pc' := 70) (ls' := [some (.inr (.inr 85)), some (.inr (.inr 25)), some (.inl g), some (.inl a), some (.inl s), some (.inl f), some (.inl (((S (52 + a) f) + (S 88 f)) + (S (90 + (mx_and g (mx_xor (mx_shl 1 f) (-1)))) f)))]) rfl rfl rfl rfl ?_
        refine r_iload (pc' := 72) rfl rfl rfl ?_
        refine r_iload (pc' := 74) rfl rfl rfl ?_
        refine r_min (pc' := 77) rfl rfl ⟨by omega, by decide⟩ ?_
        have b27 := mx_min_b s (((S (52 + a) f) + (S 88 f)) + (S (90 + (mx_and g (mx_xor (mx_shl 1 f) (-1)))) f))
        refine r_istore (pc' := 79) (ls' := [some (.inr (.inr 85)), some (.inr (.inr 25)), some (.inl g), some (.inl a), some (.inl (mx_min s (((S (52 + a) f) + (S 88 f)) + (S (90 + (mx_and g (mx_xor (mx_shl 1 f) (-1)))) f)))), some (.inl f), some (.inl (((S (52 + a) f) + (S 88 f)) + (S (90 + (mx_and g (mx_xor (mx_shl 1 f) (-1)))) f)))]) rfl rfl rfl rfl ?_
        refine r_iinc (pc' := 82) (ls' := [some (.inr (.inr 85)), some (.inr (.inr 25)), some (.inl g), some (.inl a), some (.inl (mx_min s (((S (52 + a) f) + (S 88 f)) + (S (90 + (mx_and g (mx_xor (mx_shl 1 f) (-1)))) f)))), some (.inl (f + 1)), some (.inl (((S (52 + a) f) + (S 88 f)) + (S (90 + (mx_and g (mx_xor (mx_shl 1 f) (-1)))) f)))]) rfl rfl rfl rfl rfl ?_
        refine r_goto (pc' := 15) rfl rfl ?_
        refine r_forget [true, true, true, true, true, true, false] rfl ?_
        exact ih15 ((f + 1), (mx_min s (((S (52 + a) f) + (S 88 f)) + (S (90 + (mx_and g (mx_xor (mx_shl 1 f) (-1)))) f)))) (show (0 ≤ (f + 1) ∧ (f + 1) ≤ S 25 0) ∧ (0 ≤ (mx_min s (((S (52 + a) f) + (S 88 f)) + (S (90 + (mx_and g (mx_xor (mx_shl 1 f) (-1)))) f))) ∧ (mx_min s (((S (52 + a) f) + (S 88 f)) + (S (90 + (mx_and g (mx_xor (mx_shl 1 f) (-1)))) f))) ≤ 1000000) ∧ ((mx_min s (((S (52 + a) f) + (S 88 f)) + (S (90 + (mx_and g (mx_xor (mx_shl 1 f) (-1)))) f))) = fo (fun kk xx => if tb g kk then mx_min xx (S (52 + a) kk + S 88 kk + S (90 + mx_and g (mx_xor (mx_shl 1 kk) (-1))) kk) else xx) (if g = 0 then 0 else 1000000) (f + 1).toNat) from by exact ⟨by omega, by omega, by rw [fo_s (by omega), ← i2]; exact (if_pos h19).symm⟩) (show (S 25 0 - (f + 1)).toNat < (S 25 0 - f).toNat from by omega)
      · refine r_icmp_ne1 (pc' := 79) rfl rfl (by omega) (fun q => h19 ((b_tst (by omega)).mp q)) ?_
        refine r_iinc (pc' := 82) (ls' := [some (.inr (.inr 85)), some (.inr (.inr 25)), some (.inl g), some (.inl a), some (.inl s), some (.inl (f + 1)), none]) rfl rfl rfl rfl rfl ?_
        refine r_goto (pc' := 15) rfl rfl ?_
        exact ih15 ((f + 1), s) (show (0 ≤ (f + 1) ∧ (f + 1) ≤ S 25 0) ∧ (0 ≤ s ∧ s ≤ 1000000) ∧ (s = fo (fun kk xx => if tb g kk then mx_min xx (S (52 + a) kk + S 88 kk + S (90 + mx_and g (mx_xor (mx_shl 1 kk) (-1))) kk) else xx) (if g = 0 then 0 else 1000000) (f + 1).toNat) from by exact ⟨by omega, by omega, by rw [fo_s (by omega), ← i2]; exact (if_neg h19).symm⟩) (show (S 25 0 - (f + 1)).toNat < (S 25 0 - f).toNat from by omega)
    · refine r_icmp_ge1 (pc' := 85) rfl rfl (by omega) (by omega) ?_
      refine r_iload (pc' := 87) rfl rfl rfl ?_
      refine q_iret rfl rfl rfl ?_
      have e : f.toNat = (S 25 0).toNat := by omega
      exact ⟨by rw [i2, e]; rfl, rfl⟩
theorem c_X9_canGoOn {g : Int} {a : Int} {m : Int} {S : rS} (hB : Bd S) (h_g : 0 ≤ g ∧ g < 128) (h_a : 0 ≤ a ∧ a < 7) (h_m : 0 ≤ m ∧ m ≤ 10000000) : CS 2 183 [.inr (.inr 85), .inr (.inr 25), .inl g, .inl a, .inl m] S (fun r' S' => r' = some (.inl (bi (∃ xx, (g ≤ xx ∧ xx ≤ S 85 3) ∧ cgo S g a m xx))) ∧ S' = S) := by
  refine RS.beg (ls := [some (.inr (.inr 85)), some (.inr (.inr 25)), some (.inl g), some (.inl a), some (.inl m), none, none]) rfl rfl rfl rfl rfl ?_
  have b0 : 0 ≤ S 85 3 ∧ S 85 3 ≤ 127 := hB 85 3
  refine r_iload (pc' := 1) rfl rfl rfl ?_
  refine r_istore (pc' := 3) (ls' := [some (.inr (.inr 85)), some (.inr (.inr 25)), some (.inl g), some (.inl a), some (.inl m), some (.inl g), none]) rfl rfl rfl rfl ?_
  refine r_while (α := Int) (fun z' => [some (.inr (.inr 85)), some (.inr (.inr 25)), some (.inl g), some (.inl a), some (.inl m), some (.inl z'), none]) (fun z' => S) (fun z' => (g ≤ z' ∧ z' ≤ 128) ∧ (∀ yy, g ≤ yy → yy < z' → ¬ cgo S g a m yy)) (fun z' => (S 85 3 + 1 - z').toNat) ?_ g (show (g ≤ g ∧ g ≤ 128) ∧ (∀ yy, g ≤ yy → yy < g → ¬ cgo S g a m yy) from by exact ⟨by omega, fun y h1 h2 => absurd h1 (by omega)⟩)
  rintro x hI' ih3
  have hI' : (g ≤ x ∧ x ≤ 128) ∧ (∀ yy, g ≤ yy → yy < x → ¬ cgo S g a m yy) := hI'
  obtain ⟨i1, i2⟩ := hI'
  show RS _ _ _ _ [some (.inr (.inr 85)), some (.inr (.inr 25)), some (.inl g), some (.inl a), some (.inl m), some (.inl x), none] [] S
  refine r_iload (pc' := 5) rfl rfl rfl ?_
  refine r_aload (pc' := 6) rfl rfl rfl ?_
  refine r_getv (pc' := 9) (v := (S 85 3)) rfl rfl (Or.inl rfl) rfl rfl ?_
  have b1 : 0 ≤ S 85 3 ∧ S 85 3 ≤ 127 := hB 85 3
  by_cases h2 : (S 85 3) < x
  · refine r_icmp_gt1 (pc' := 89) rfl rfl (by omega) (by omega) ?_
    refine r_const (pc' := 90) rfl rfl ?_
    refine q_zret rfl rfl rfl (by omega) ?_
    exact ⟨bi_f (fun q => by obtain ⟨y, q1, q2⟩ := q; exact i2 y q1.1 (by omega) q2), rfl⟩
  · refine r_icmp_gt0 (pc' := 12) rfl rfl (by omega) (by omega) ?_
    refine r_aload (pc' := 13) rfl rfl rfl ?_
    refine r_getr (pc' := 16) (v := 218) rfl rfl rfl rfl rfl ?_
    refine r_iload (pc' := 18) rfl rfl rfl ?_
    refine r_aldv (pc' := 19) (v := (S 218 x)) 128 rfl rfl rfl (by omega) rfl ?_
    have b3 : -1 ≤ S 218 x ∧ S 218 x ≤ 56 := hB 218 x
    refine r_aload (pc' := 20) rfl rfl rfl ?_
    refine r_getv (pc' := 23) (v := (S 85 2)) rfl rfl (Or.inl rfl) rfl rfl ?_
    have b4 : 0 ≤ S 85 2 ∧ S 85 2 ≤ 56 := hB 85 2
    by_cases h5 : (S 218 x) = (S 85 2)
    · refine r_icmp_ne0 (pc' := 26) rfl rfl (by omega) (by omega) ?_
      refine r_iload (pc' := 28) rfl rfl rfl ?_
      refine q_callE (pc' := 31) (w := some (.inl (pop x))) (S2 := S) (st' := [.inl (pop x)]) rfl rfl rfl (c_J6_bitCount_0f7a4 (a := x) (S := S)  (show 0 ≤ x ∧ x < 512 from by omega)) (by decide) rfl rfl (Nat.le_of_ble_eq_true rfl) (fun q => absurd rfl q) rfl rfl ?_
      have b6 : 0 ≤ (pop x) ∧ (pop x) ≤ 9 := pop_r _
      refine r_aload (pc' := 32) rfl rfl rfl ?_
      refine r_getv (pc' := 35) (v := (S 85 1)) rfl rfl (Or.inl rfl) rfl rfl ?_
      have b7 : 0 ≤ S 85 1 ∧ S 85 1 ≤ 7 := hB 85 1
      by_cases h8 : (pop x) = (S 85 1)
      · refine r_icmp_ne0 (pc' := 38) rfl rfl (by omega) (by omega) ?_
        refine r_const (pc' := 39) rfl rfl ?_
        refine r_goto (pc' := 43) rfl rfl ?_
        refine r_istore (pc' := 45) (ls' := [some (.inr (.inr 85)), some (.inr (.inr 25)), some (.inl g), some (.inl a), some (.inl m), some (.inl x), some (.inl 1)]) rfl rfl rfl rfl ?_
        refine r_iload (pc' := 47) rfl rfl rfl ?_
        refine r_if_eq0 (pc' := 50) rfl rfl (by decide) (by decide) ?_
        refine r_iload (pc' := 52) rfl rfl rfl ?_
        refine r_iload (pc' := 53) rfl rfl rfl ?_
        refine r_iand (pc' := 54) rfl rfl ?_
        have b9 := mx_and_r x g
        have e10 : 0 ≤ mx_and x g ∧ mx_and x g < 128 := and_u (a := x) (b := g) 7 (by omega) (by omega) (by omega)
        refine r_iload (pc' := 55) rfl rfl rfl ?_
        by_cases h11 : (mx_and x g) = g
        · refine r_icmp_ne0 (pc' := 58) rfl rfl (by omega) (by omega) ?_
          refine r_iload (pc' := 60) rfl rfl rfl ?_
          refine r_aload (pc' := 61) rfl rfl rfl ?_
          refine r_getr (pc' := 64) (v := 89) rfl rfl rfl rfl rfl ?_
          refine r_iload (pc' := 66) rfl rfl rfl ?_
          refine r_iload (pc' := 67) rfl rfl rfl ?_
          refine r_const (pc' := 68) rfl rfl ?_
          refine r_ixor (pc' := 69) rfl rfl ?_
          have b12 := mx_xor_r g (-1)
          refine r_iand (pc' := 70) rfl rfl ?_
          have b13 := mx_and_r x (mx_xor g (-1))
          have e14 : 0 ≤ mx_and x (mx_xor g (-1)) ∧ mx_and x (mx_xor g (-1)) < 128 := and_u (a := x) (b := (mx_xor g (-1))) 7 (by omega) (by omega) (by omega)
          refine r_aald (pc' := 71) (v := (90 + (mx_and x (mx_xor g (-1))))) 102128 rfl rfl rfl rfl (by omega) rfl ?_
          refine r_iload (pc' := 72) rfl rfl rfl ?_
          refine r_aldv (pc' := 73) (v := (S (90 + (mx_and x (mx_xor g (-1)))) a)) 7 rfl rfl (shr_90 (by omega)) (by omega) rfl ?_
          have b15 : 0 ≤ S (90 + (mx_and x (mx_xor g (-1)))) a ∧ S (90 + (mx_and x (mx_xor g (-1)))) a ≤ 1000000 := bdr_90 hB (by omega) a
          refine r_iadd (pc' := 74) rfl rfl ?_
          refine r_aload (pc' := 75) rfl rfl rfl ?_
          refine r_getv (pc' := 78) (v := (S 25 13)) rfl rfl (Or.inl rfl) rfl rfl ?_
          have b16 : 0 ≤ S 25 13 ∧ S 25 13 ≤ 99 := hB 25 13
          by_cases h17 : (S 25 13) < (m + (S (90 + (mx_and x (mx_xor g (-1)))) a))
          · refine r_icmp_gt1 (pc' := 83) rfl rfl (by omega) (by omega) ?_
            refine r_iinc (pc' := 86) (ls' := [some (.inr (.inr 85)), some (.inr (.inr 25)), some (.inl g), some (.inl a), some (.inl m), some (.inl (x + 1)), some (.inl 1)]) rfl rfl rfl rfl rfl ?_
            refine r_goto (pc' := 3) rfl rfl ?_
            refine r_forget [true, true, true, true, true, true, false] rfl ?_
            exact ih3 (x + 1) (show (g ≤ (x + 1) ∧ (x + 1) ≤ 128) ∧ (∀ yy, g ≤ yy → yy < (x + 1) → ¬ cgo S g a m yy) from by exact ⟨by omega, fun y h1 h2 => by
      by_cases hy : y < x
      · exact i2 y h1 hy
      · obtain rfl : y = x := by omega
        rintro ⟨q1, q2, q3, q4⟩
        omega⟩) (show (S 85 3 + 1 - (x + 1)).toNat < (S 85 3 + 1 - x).toNat from by omega)
          · refine r_icmp_gt0 (pc' := 81) rfl rfl (by omega) (by omega) ?_
            refine r_const (pc' := 82) rfl rfl ?_
            refine q_zret rfl rfl rfl (by omega) ?_
            exact ⟨bi_t ⟨x, ⟨by omega, by omega⟩, by omega, by omega, by omega, by omega⟩, rfl⟩
        · refine r_icmp_ne1 (pc' := 83) rfl rfl (by omega) (by omega) ?_
          refine r_iinc (pc' := 86) (ls' := [some (.inr (.inr 85)), some (.inr (.inr 25)), some (.inl g), some (.inl a), some (.inl m), some (.inl (x + 1)), some (.inl 1)]) rfl rfl rfl rfl rfl ?_
          refine r_goto (pc' := 3) rfl rfl ?_
          refine r_forget [true, true, true, true, true, true, false] rfl ?_
          exact ih3 (x + 1) (show (g ≤ (x + 1) ∧ (x + 1) ≤ 128) ∧ (∀ yy, g ≤ yy → yy < (x + 1) → ¬ cgo S g a m yy) from by exact ⟨by omega, fun y h1 h2 => by
      by_cases hy : y < x
      · exact i2 y h1 hy
      · obtain rfl : y = x := by omega
        rintro ⟨q1, q2, q3, q4⟩
        omega⟩) (show (S 85 3 + 1 - (x + 1)).toNat < (S 85 3 + 1 - x).toNat from by omega)
      · refine r_icmp_ne1 (pc' := 42) rfl rfl (by omega) (by omega) ?_
        refine r_const (pc' := 43) rfl rfl ?_
        refine r_istore (pc' := 45) (ls' := [some (.inr (.inr 85)), some (.inr (.inr 25)), some (.inl g), some (.inl a), some (.inl m), some (.inl x), some (.inl 0)]) rfl rfl rfl rfl ?_
        refine r_iload (pc' := 47) rfl rfl rfl ?_
        refine r_if_eq1 (pc' := 83) rfl rfl (by decide) (by decide) ?_
        refine r_iinc (pc' := 86) (ls' := [some (.inr (.inr 85)), some (.inr (.inr 25)), some (.inl g), some (.inl a), some (.inl m), some (.inl (x + 1)), some (.inl 0)]) rfl rfl rfl rfl rfl ?_
        refine r_goto (pc' := 3) rfl rfl ?_
        refine r_forget [true, true, true, true, true, true, false] rfl ?_
        exact ih3 (x + 1) (show (g ≤ (x + 1) ∧ (x + 1) ≤ 128) ∧ (∀ yy, g ≤ yy → yy < (x + 1) → ¬ cgo S g a m yy) from by exact ⟨by omega, fun y h1 h2 => by
      by_cases hy : y < x
      · exact i2 y h1 hy
      · obtain rfl : y = x := by omega
        rintro ⟨q1, q2, q3, q4⟩
        omega⟩) (show (S 85 3 + 1 - (x + 1)).toNat < (S 85 3 + 1 - x).toNat from by omega)
    · refine r_icmp_ne1 (pc' := 42) rfl rfl (by omega) (by omega) ?_
      refine r_const (pc' := 43) rfl rfl ?_
      refine r_istore (pc' := 45) (ls' := [some (.inr (.inr 85)), some (.inr (.inr 25)), some (.inl g), some (.inl a), some (.inl m), some (.inl x), some (.inl 0)]) rfl rfl rfl rfl ?_
      refine r_iload (pc' := 47) rfl rfl rfl ?_
      refine r_if_eq1 (pc' := 83) rfl rfl (by decide) (by decide) ?_
      refine r_iinc (pc' := 86) (ls' := [some (.inr (.inr 85)), some (.inr (.inr 25)), some (.inl g), some (.inl a), some (.inl m), some (.inl (x + 1)), some (.inl 0)]) rfl rfl rfl rfl rfl ?_
      refine r_goto (pc' := 3) rfl rfl ?_
      refine r_forget [true, true, true, true, true, true, false] rfl ?_
      exact ih3 (x + 1) (show (g ≤ (x + 1) ∧ (x + 1) ≤ 128) ∧ (∀ yy, g ≤ yy → yy < (x + 1) → ¬ cgo S g a m yy) from by exact ⟨by omega, fun y h1 h2 => by
      by_cases hy : y < x
      · exact i2 y h1 hy
      · obtain rfl : y = x := by omega
        rintro ⟨q1, q2, q3, q4⟩
        omega⟩) (show (S 85 3 + 1 - (x + 1)).toNat < (S 85 3 + 1 - x).toNat from by omega)
theorem c_X2_power {b : Int} {n : Int} {S : rS} (h_b : 0 ≤ b ∧ b ≤ 10) (h_n : 0 ≤ n ∧ n ≤ 8) : CS 1 141 [.inl b, .inl n] S (fun r' S' => r' = some (.inr (.inl (pw b n))) ∧ S' = S) := by
  refine RS.beg (ls := [some (.inl b), some (.inl n), none, none, none]) rfl rfl rfl rfl rfl ?_
  refine r_lcon (pc' := 1) rfl rfl ?_
  refine r_lstore (pc' := 2) (ls' := [some (.inl b), some (.inl n), some (.inr (.inl 1)), none, none]) rfl rfl rfl rfl ?_
  refine r_const (pc' := 3) rfl rfl ?_
  refine r_istore (pc' := 5) (ls' := [some (.inl b), some (.inl n), some (.inr (.inl 1)), none, some (.inl 0)]) rfl rfl rfl rfl ?_
  refine r_while (α := Int × Int) (fun z' => [some (.inl b), some (.inl n), some (.inr (.inl z'.2)), none, some (.inl z'.1)]) (fun z' => S) (fun z' => (0 ≤ z'.1 ∧ z'.1 ≤ n) ∧ (z'.2 = fo (fun _ xx => xx * b) 1 (z'.1).toNat)) (fun z' => (n - z'.1).toNat) ?_ (0, 1) (show (0 ≤ (0 : Int) ∧ (0 : Int) ≤ n) ∧ ((1 : Int) = fo (fun _ xx => xx * b) 1 (0 : Int).toNat) from by exact ⟨by omega, rfl⟩)
  rintro ⟨f, p⟩ hI' ih5
  have hI' : (0 ≤ f ∧ f ≤ n) ∧ (p = fo (fun _ xx => xx * b) 1 f.toNat) := hI'
  obtain ⟨i1, i2⟩ := hI'
  show RS _ _ _ _ [some (.inl b), some (.inl n), some (.inr (.inl p)), none, some (.inl f)] [] S
  refine r_iload (pc' := 7) rfl rfl rfl ?_
  refine r_iload (pc' := 8) rfl rfl rfl ?_
  by_cases h1 : f < n
  · refine r_icmp_ge0 (pc' := 11) rfl rfl (by omega) (by omega) ?_
    refine r_lload (pc' := 12) rfl rfl rfl ?_
    refine r_iload (pc' := 13) rfl rfl rfl ?_
    refine r_i2l (pc' := 14) rfl rfl (by omega) ?_
    refine r_lmul (pc' := 15) rfl rfl ?_
    refine r_lstore (pc' := 16) (ls' := [some (.inl b), some (.inl n), some (.inr (.inl (p * b))), none, some (.inl f)]) rfl rfl rfl rfl ?_
    refine r_iinc (pc' := 19) (ls' := [some (.inl b), some (.inl n), some (.inr (.inl (p * b))), none, some (.inl (f + 1))]) rfl rfl rfl rfl rfl ?_
    refine r_goto (pc' := 5) rfl rfl ?_
    exact ih5 ((f + 1), (p * b)) (show (0 ≤ (f + 1) ∧ (f + 1) ≤ n) ∧ ((p * b) = fo (fun _ xx => xx * b) 1 (f + 1).toNat) from by exact ⟨by omega, by rw [fo_s (by omega), ← i2]⟩) (show (n - (f + 1)).toNat < (n - f).toNat from by omega)
  · refine r_icmp_ge1 (pc' := 22) rfl rfl (by omega) (by omega) ?_
    refine r_lload (pc' := 23) rfl rfl rfl ?_
    refine q_lret rfl rfl rfl ?_
    obtain rfl : f = n := by omega
    exact ⟨by rw [i2]; rfl, rfl⟩
theorem c_X2_choices {a : Int} {t : Int} {S : rS} (h_t : 0 ≤ t ∧ t ≤ a) (h_a : a ≤ 8) : CS 1 139 [.inl a, .inl t] S (fun r' S' => r' = some (.inr (.inl (chs a t t.toNat))) ∧ S' = S) := by
  refine RS.beg (ls := [some (.inl a), some (.inl t), none, none, none]) rfl rfl rfl rfl rfl ?_
  refine r_lcon (pc' := 1) rfl rfl ?_
  refine r_lstore (pc' := 2) (ls' := [some (.inl a), some (.inl t), some (.inr (.inl 1)), none, none]) rfl rfl rfl rfl ?_
  refine r_const (pc' := 3) rfl rfl ?_
  refine r_istore (pc' := 5) (ls' := [some (.inl a), some (.inl t), some (.inr (.inl 1)), none, some (.inl 1)]) rfl rfl rfl rfl ?_
  refine r_while (α := Int × Int) (fun z' => [some (.inl a), some (.inl t), some (.inr (.inl z'.2)), none, some (.inl z'.1)]) (fun z' => S) (fun z' => (1 ≤ z'.1 ∧ z'.1 ≤ t + 1) ∧ (z'.2 = chs a t (z'.1 - 1).toNat)) (fun z' => (t + 1 - z'.1).toNat) ?_ (1, 1) (show (1 ≤ (1 : Int) ∧ (1 : Int) ≤ t + 1) ∧ ((1 : Int) = chs a t ((1 : Int) - 1).toNat) from by exact ⟨by omega, rfl⟩)
  rintro ⟨f, p⟩ hI' ih5
  have hI' : (1 ≤ f ∧ f ≤ t + 1) ∧ (p = chs a t (f - 1).toNat) := hI'
  obtain ⟨i1, i2⟩ := hI'
  show RS _ _ _ _ [some (.inl a), some (.inl t), some (.inr (.inl p)), none, some (.inl f)] [] S
  refine r_iload (pc' := 7) rfl rfl rfl ?_
  refine r_iload (pc' := 8) rfl rfl rfl ?_
  by_cases h1 : t < f
  · refine r_icmp_gt1 (pc' := 31) rfl rfl (by omega) (by omega) ?_
    refine r_lload (pc' := 32) rfl rfl rfl ?_
    refine q_lret rfl rfl rfl ?_
    have e : (f - 1).toNat = t.toNat := by omega
    exact ⟨by rw [i2, e], rfl⟩
  · refine r_icmp_gt0 (pc' := 11) rfl rfl (by omega) (by omega) ?_
    refine r_lload (pc' := 12) rfl rfl rfl ?_
    refine r_iload (pc' := 13) rfl rfl rfl ?_
    refine r_iload (pc' := 14) rfl rfl rfl ?_
    refine r_isub (pc' := 15) rfl rfl ?_
    refine r_iload (pc' := 17) rfl rfl rfl ?_
    refine r_iadd (pc' := 18) rfl rfl ?_
    refine r_i2l (pc' := 19) rfl rfl (by omega) ?_
    refine r_lmul (pc' := 20) rfl rfl ?_
    refine r_iload (pc' := 22) rfl rfl rfl ?_
    refine r_i2l (pc' := 23) rfl rfl (by omega) ?_
    refine r_ldiv (pc' := 24) rfl rfl (by first | omega | exact ⟨mul_b (chs_b (by omega)) (by omega), by omega⟩ | (rw [i2]; exact ⟨mul_b (chs_b (by omega)) (by omega), by omega⟩)) ?_
    refine r_lstore (pc' := 25) (ls' := [some (.inl a), some (.inl t), some (.inr (.inl ((p * ((a - t) + f)) / f))), none, some (.inl f)]) rfl rfl rfl rfl ?_
    refine r_iinc (pc' := 28) (ls' := [some (.inl a), some (.inl t), some (.inr (.inl ((p * ((a - t) + f)) / f))), none, some (.inl (f + 1))]) rfl rfl rfl rfl rfl ?_
    refine r_goto (pc' := 5) rfl rfl ?_
    exact ih5 ((f + 1), ((p * ((a - t) + f)) / f)) (show (1 ≤ (f + 1) ∧ (f + 1) ≤ t + 1) ∧ (((p * ((a - t) + f)) / f) = chs a t ((f + 1) - 1).toNat) from by exact ⟨by omega, by
      have e : chs a t (f - 1 + 1).toNat = chs a t (f - 1).toNat * (a - t + (f - 1 + 1)) / (f - 1 + 1) := fo_s (by omega)
      rw [show f + 1 - 1 = f - 1 + 1 by omega, e, ← i2, show f - 1 + 1 = f by omega]⟩) (show (t + 1 - (f + 1)).toNat < (t + 1 - f).toNat from by omega)
theorem c_X2_waysOfAtMost {m : Int} {a : Int} {q : Int} {S : rS} (h_m : -8 ≤ m ∧ m ≤ 8) (h_a : 0 ≤ a ∧ a ≤ 8) (h_q : 0 ≤ q ∧ q ≤ 10) : CS 2 142 [.inl m, .inl a, .inl q] S (fun r' S' => r' = some (.inr (.inl (wam m a q))) ∧ S' = S) := by
  refine RS.beg (ls := [some (.inl m), some (.inl a), some (.inl q), none, none, none]) rfl rfl rfl rfl rfl ?_
  refine r_lcon (pc' := 1) rfl rfl ?_
  refine r_lstore (pc' := 2) (ls' := [some (.inl m), some (.inl a), some (.inl q), some (.inr (.inl 0)), none, none]) rfl rfl rfl rfl ?_
  refine r_const (pc' := 3) rfl rfl ?_
  refine r_istore (pc' := 5) (ls' := [some (.inl m), some (.inl a), some (.inl q), some (.inr (.inl 0)), none, some (.inl 0)]) rfl rfl rfl rfl ?_
  refine r_while (α := Int × Int) (fun z' => [some (.inl m), some (.inl a), some (.inl q), some (.inr (.inl z'.2)), none, some (.inl z'.1)]) (fun z' => S) (fun z' => (0 ≤ z'.1 ∧ (z'.1 ≤ mx_min m a + 1 ∨ z'.1 = 0)) ∧ (z'.2 = fo (fun kk xx => xx + chs a kk kk.toNat * pw q kk * pw (10 - q) (a - kk)) 0 (z'.1).toNat)) (fun z' => (9 - z'.1).toNat) ?_ (0, 0) (show (0 ≤ (0 : Int) ∧ ((0 : Int) ≤ mx_min m a + 1 ∨ (0 : Int) = 0)) ∧ ((0 : Int) = fo (fun kk xx => xx + chs a kk kk.toNat * pw q kk * pw (10 - q) (a - kk)) 0 (0 : Int).toNat) from by exact ⟨by omega, rfl⟩)
  rintro ⟨f, p⟩ hI' ih5
  have hI' : (0 ≤ f ∧ (f ≤ mx_min m a + 1 ∨ f = 0)) ∧ (p = fo (fun kk xx => xx + chs a kk kk.toNat * pw q kk * pw (10 - q) (a - kk)) 0 f.toNat) := hI'
  obtain ⟨i1, i2⟩ := hI'
  show RS _ _ _ _ [some (.inl m), some (.inl a), some (.inl q), some (.inr (.inl p)), none, some (.inl f)] [] S
  have bm := mx_min_b m a
  refine r_iload (pc' := 7) rfl rfl rfl ?_
  refine r_iload (pc' := 8) rfl rfl rfl ?_
  by_cases h1 : m < f
  · refine r_icmp_gt1 (pc' := 51) rfl rfl (by omega) (by omega) ?_
    refine r_lload (pc' := 52) rfl rfl rfl ?_
    refine q_lret rfl rfl rfl ?_
    have e : f.toNat = (mx_min m a + 1).toNat := by omega
    exact ⟨by rw [i2, e]; rfl, rfl⟩
  · refine r_icmp_gt0 (pc' := 11) rfl rfl (by omega) (by omega) ?_
    refine r_iload (pc' := 13) rfl rfl rfl ?_
    refine r_iload (pc' := 14) rfl rfl rfl ?_
    by_cases h2 : a < f
    · refine r_icmp_gt1 (pc' := 51) rfl rfl (by omega) (by omega) ?_
      refine r_lload (pc' := 52) rfl rfl rfl ?_
      refine q_lret rfl rfl rfl ?_
      have e : f.toNat = (mx_min m a + 1).toNat := by omega
      exact ⟨by rw [i2, e]; rfl, rfl⟩
    · refine r_icmp_gt0 (pc' := 17) rfl rfl (by omega) (by omega) ?_
      refine r_lload (pc' := 18) rfl rfl rfl ?_
      refine r_iload (pc' := 19) rfl rfl rfl ?_
      refine r_iload (pc' := 21) rfl rfl rfl ?_
      refine q_callE (pc' := 24) (w := some (.inr (.inl (chs a f f.toNat)))) (S2 := S) (st' := [.inr (.inl (chs a f f.toNat)), .inr (.inl p)]) rfl rfl rfl (c_X2_choices (a := a) (t := f) (S := S)  (show 0 ≤ f ∧ f ≤ a from by omega) (show a ≤ 8 from by omega)) (by decide) rfl rfl (Nat.le_of_ble_eq_true rfl) (fun q => absurd rfl q) rfl rfl ?_
      refine r_iload (pc' := 25) rfl rfl rfl ?_
      refine r_iload (pc' := 27) rfl rfl rfl ?_
      refine q_callE (pc' := 30) (w := some (.inr (.inl (pw q f)))) (S2 := S) (st' := [.inr (.inl (pw q f)), .inr (.inl (chs a f f.toNat)), .inr (.inl p)]) rfl rfl rfl (c_X2_power (b := q) (n := f) (S := S)  (show 0 ≤ q ∧ q ≤ 10 from by omega) (show 0 ≤ f ∧ f ≤ 8 from by omega)) (by decide) rfl rfl (Nat.le_of_ble_eq_true rfl) (fun q => absurd rfl q) rfl rfl ?_
      refine r_lmul (pc' := 31) rfl rfl ?_
      refine r_const (pc' := 33) rfl rfl ?_
      refine r_iload (pc' := 34) rfl rfl rfl ?_
      refine r_isub (pc' := 35) rfl rfl ?_
      refine r_iload (pc' := 36) rfl rfl rfl ?_
      refine r_iload (pc' := 38) rfl rfl rfl ?_
      refine r_isub (pc' := 39) rfl rfl ?_
      refine q_callE (pc' := 42) (w := some (.inr (.inl (pw (10 - q) (a - f))))) (S2 := S) (st' := [.inr (.inl (pw (10 - q) (a - f))), .inr (.inl ((chs a f f.toNat) * (pw q f))), .inr (.inl p)]) rfl rfl rfl (c_X2_power (b := (10 - q)) (n := (a - f)) (S := S)  (show 0 ≤ (10 - q) ∧ (10 - q) ≤ 10 from by omega) (show 0 ≤ (a - f) ∧ (a - f) ≤ 8 from by omega)) (by decide) rfl rfl (Nat.le_of_ble_eq_true rfl) (fun q => absurd rfl q) rfl rfl ?_
      refine r_lmul (pc' := 43) rfl rfl ?_
      refine r_ladd (pc' := 44) rfl rfl ?_
      refine r_lstore (pc' := 45) (ls' := [some (.inl m), some (.inl a), some (.inl q), some (.inr (.inl (p + (((chs a f f.toNat) * (pw q f)) * (pw (10 - q) (a - f)))))), none, some (.inl f)]) rfl rfl rfl rfl ?_
      refine r_iinc (pc' := 48) (ls' := [some (.inl m), some (.inl a), some (.inl q), some (.inr (.inl (p + (((chs a f f.toNat) * (pw q f)) * (pw (10 - q) (a - f)))))), none, some (.inl (f + 1))]) rfl rfl rfl rfl rfl ?_
      refine r_goto (pc' := 5) rfl rfl ?_
      exact ih5 ((f + 1), (p + (((chs a f f.toNat) * (pw q f)) * (pw (10 - q) (a - f))))) (show (0 ≤ (f + 1) ∧ ((f + 1) ≤ mx_min m a + 1 ∨ (f + 1) = 0)) ∧ ((p + (((chs a f f.toNat) * (pw q f)) * (pw (10 - q) (a - f)))) = fo (fun kk xx => xx + chs a kk kk.toNat * pw q kk * pw (10 - q) (a - kk)) 0 (f + 1).toNat) from by exact ⟨by omega, by rw [fo_s (by omega), ← i2]⟩) (show (9 - (f + 1)).toNat < (9 - f).toNat from by omega)
theorem c_X2_commonDivisor {a : Int} {b : Int} {S : rS} (h_a : 0 ≤ a ∧ a ≤ 100000000) (h_b : 0 < b ∧ b ≤ 100000000) : CS 1 140 [.inr (.inl a), .inr (.inl b)] S (fun r' S' => r' = some (.inr (.inl (gc a b))) ∧ S' = S) := by
  refine RS.beg (ls := [some (.inr (.inl a)), none, some (.inr (.inl b)), none, none, none, none, none, none, none, none]) rfl rfl rfl rfl rfl ?_
  refine r_lload (pc' := 1) rfl rfl rfl ?_
  refine r_lstore (pc' := 3) (ls' := [some (.inr (.inl a)), none, some (.inr (.inl b)), none, some (.inr (.inl a)), none, none, none, none, none, none]) rfl rfl rfl rfl ?_
  refine r_lload (pc' := 4) rfl rfl rfl ?_
  refine r_lstore (pc' := 6) (ls' := [some (.inr (.inl a)), none, some (.inr (.inl b)), none, some (.inr (.inl a)), none, some (.inr (.inl b)), none, none, none, none]) rfl rfl rfl rfl ?_
  refine r_const (pc' := 7) rfl rfl ?_
  refine r_istore (pc' := 9) (ls' := [some (.inr (.inl a)), none, some (.inr (.inl b)), none, some (.inr (.inl a)), none, some (.inr (.inl b)), none, some (.inl 0), none, none]) rfl rfl rfl rfl ?_
  refine r_while (α := Int × Int × Int) (fun z' => [some (.inr (.inl a)), none, some (.inr (.inl b)), none, some (.inr (.inl z'.1)), none, some (.inr (.inl z'.2.1)), none, some (.inl z'.2.2), none, none]) (fun z' => S) (fun z' => (0 ≤ z'.2.2 ∧ z'.2.2 ≤ 100) ∧ ((0 ≤ z'.1 ∧ z'.1 ≤ 100000000) ∧ 0 ≤ z'.2.1 ∧ z'.2.1 ≤ 100000000) ∧ (gc z'.1 z'.2.1 = gc a b) ∧ (z'.2.2 = 0 ∧ z'.1 = a ∧ z'.2.1 = b ∨ 1 ≤ z'.2.2 ∧ z'.2.1 ≤ z'.1 ∧ z'.1 * z'.2.1 * 2 ^ (z'.2.2 - 1).toNat ≤ 2 ^ 60)) (fun z' => (100 - z'.2.2).toNat) ?_ (a, b, 0) (show (0 ≤ (0 : Int) ∧ (0 : Int) ≤ 100) ∧ ((0 ≤ a ∧ a ≤ 100000000) ∧ 0 ≤ b ∧ b ≤ 100000000) ∧ (gc a b = gc a b) ∧ ((0 : Int) = 0 ∧ a = a ∧ b = b ∨ 1 ≤ (0 : Int) ∧ b ≤ a ∧ a * b * 2 ^ ((0 : Int) - 1).toNat ≤ 2 ^ 60) from by exact ⟨by omega, by omega, rfl, by omega⟩)
  rintro ⟨u, v, f⟩ hI' ih9
  have hI' : (0 ≤ f ∧ f ≤ 100) ∧ ((0 ≤ u ∧ u ≤ 100000000) ∧ 0 ≤ v ∧ v ≤ 100000000) ∧ (gc u v = gc a b) ∧ (f = 0 ∧ u = a ∧ v = b ∨ 1 ≤ f ∧ v ≤ u ∧ u * v * 2 ^ (f - 1).toNat ≤ 2 ^ 60) := hI'
  obtain ⟨i1, i2, i3, i4⟩ := hI'
  show RS _ _ _ _ [some (.inr (.inl a)), none, some (.inr (.inl b)), none, some (.inr (.inl u)), none, some (.inr (.inl v)), none, some (.inl f), none, none] [] S
  refine r_iload (pc' := 11) rfl rfl rfl ?_
  refine r_const (pc' := 13) rfl rfl ?_
  by_cases h1 : f < 100
  · refine r_icmp_ge0 (pc' := 16) rfl rfl (by omega) (by omega) ?_
    refine r_lload (pc' := 18) rfl rfl rfl ?_
    refine r_lcon (pc' := 19) rfl rfl ?_
    refine r_lcmp (pc' := 20) rfl rfl (by omega) ?_
    have b2 := mx_cmp_b v 0
    by_cases h3 : v = 0
    · refine r_if_eq1 (pc' := 44) rfl rfl (by omega) (by omega) ?_
      refine r_lload (pc' := 46) rfl rfl rfl ?_
      refine q_lret rfl rfl rfl ?_
      have hv : v = 0 := by
        rcases i4 with q | q
        · omega
        · first | omega | exact gc_z (n := f - 1) (by omega) q.2.2 q.2.1 (by omega)
      rw [hv, gc_0 (by omega)] at i3
      exact ⟨by rw [i3], rfl⟩
    · refine r_if_eq0 (pc' := 23) rfl rfl (by omega) (by omega) ?_
      refine r_lload (pc' := 25) rfl rfl rfl ?_
      refine r_lload (pc' := 27) rfl rfl rfl ?_
      refine r_lrem (pc' := 28) rfl rfl (by omega) ?_
      refine r_lstore (pc' := 30) (ls' := [some (.inr (.inl a)), none, some (.inr (.inl b)), none, some (.inr (.inl u)), none, some (.inr (.inl v)), none, some (.inl f), some (.inr (.inl (u % v))), none]) rfl rfl rfl rfl ?_
      refine r_lload (pc' := 32) rfl rfl rfl ?_
      refine r_lstore (pc' := 34) (ls' := [some (.inr (.inl a)), none, some (.inr (.inl b)), none, some (.inr (.inl v)), none, some (.inr (.inl v)), none, some (.inl f), some (.inr (.inl (u % v))), none]) rfl rfl rfl rfl ?_
      refine r_lload (pc' := 36) rfl rfl rfl ?_
      refine r_lstore (pc' := 38) (ls' := [some (.inr (.inl a)), none, some (.inr (.inl b)), none, some (.inr (.inl v)), none, some (.inr (.inl (u % v))), none, some (.inl f), some (.inr (.inl (u % v))), none]) rfl rfl rfl rfl ?_
      refine r_iinc (pc' := 41) (ls' := [some (.inr (.inl a)), none, some (.inr (.inl b)), none, some (.inr (.inl v)), none, some (.inr (.inl (u % v))), none, some (.inl (f + 1)), some (.inr (.inl (u % v))), none]) rfl rfl rfl rfl rfl ?_
      refine r_goto (pc' := 9) rfl rfl ?_
      refine r_forget [true, true, true, true, true, true, true, true, true, false, true] rfl ?_
      exact ih9 (v, (u % v), (f + 1)) (show (0 ≤ (f + 1) ∧ (f + 1) ≤ 100) ∧ ((0 ≤ v ∧ v ≤ 100000000) ∧ 0 ≤ (u % v) ∧ (u % v) ≤ 100000000) ∧ (gc v (u % v) = gc a b) ∧ ((f + 1) = 0 ∧ v = a ∧ (u % v) = b ∨ 1 ≤ (f + 1) ∧ (u % v) ≤ v ∧ v * (u % v) * 2 ^ ((f + 1) - 1).toNat ≤ 2 ^ 60) from by exact ⟨by omega, ⟨by omega, by have := Int.emod_nonneg u (show v ≠ 0 by omega); have := Int.emod_lt_of_pos u (show 0 < v by omega); omega⟩, (gc_s (by omega) (by omega)).trans i3, Or.inr ⟨by omega, by have := Int.emod_lt_of_pos u (show 0 < v by omega); omega, by
      have q0 := Int.emod_nonneg u (show v ≠ 0 by omega)
      have q1 := Int.emod_lt_of_pos u (show 0 < v by omega)
      rcases i4 with q | q
      · rw [show f + 1 - 1 = (0 : Int) by omega]
        have := Int.mul_le_mul (show v ≤ 100000000 by omega) (show u % v ≤ 100000000 by omega) (by omega) (by omega)
        show v * (u % v) * 1 ≤ 1152921504606846976
        omega
      · have := gc_r (n := f - 1) (by omega) q.2.2 (by omega) q.2.1
        rw [show f - 1 + 1 = f + 1 - 1 by omega] at this
        exact this⟩⟩) (show (100 - (f + 1)).toNat < (100 - f).toNat from by omega)
  · refine r_icmp_ge1 (pc' := 44) rfl rfl (by omega) (by omega) ?_
    refine r_lload (pc' := 46) rfl rfl rfl ?_
    refine q_lret rfl rfl rfl ?_
    have hv : v = 0 := by
      rcases i4 with q | q
      · omega
      · first | omega | exact gc_z (n := f - 1) (by omega) q.2.2 q.2.1 (by omega)
    rw [hv, gc_0 (by omega)] at i3
    exact ⟨by rw [i3], rfl⟩
