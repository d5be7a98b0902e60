/-! WORDS for what methods answer: truth as a number, runs over 0 .. n - 1, bits of an int -/
noncomputable def bi (P : Prop) : Int := @ite Int P (Classical.propDecidable P) 1 0
theorem bi_1 {P : Prop} (h : P) : bi P = 1 := if_pos h
theorem bi_0 {P : Prop} (h : ¬ P) : bi P = 0 := if_neg h
theorem bi_t {P : Prop} (h : P) : (some (Sum.inl 1) : Option mx_V) = some (.inl (bi P)) := by rw [bi_1 h]
theorem bi_f {P : Prop} (h : ¬ P) : (some (Sum.inl 0) : Option mx_V) = some (.inl (bi P)) := by rw [bi_0 h]
theorem bi_r (P : Prop) : bi P = 0 ∨ bi P = 1 := by
  by_cases h : P
  · exact Or.inr (bi_1 h)
  · exact Or.inl (bi_0 h)
theorem bi_cg {P Q : Prop} (h : P ↔ Q) : bi P = bi Q := by rw [propext h]
theorem bi_pos {d y : Nat} {as : List mx_V} {S S2 : rS} {P : Prop} (h : P) (c : CS d y as S (fun r' S' => r' = some (.inl (bi P)) ∧ S' = S2)) : CS d y as S (fun v S' => v = some (.inl 1) ∧ S' = S2) := by rw [bi_1 h] at c; exact c
theorem bi_neg {d y : Nat} {as : List mx_V} {S S2 : rS} {P : Prop} (h : ¬ P) (c : CS d y as S (fun r' S' => r' = some (.inl (bi P)) ∧ S' = S2)) : CS d y as S (fun v S' => v = some (.inl 0) ∧ S' = S2) := by rw [bi_0 h] at c; exact c
/-- a run over 0 .. n - 1 -/
def fo {α : Type} (f : Int → α → α) (a : α) : Nat → α
  | 0 => a
  | n + 1 => f n (fo f a n)
theorem fo_s {α : Type} {f : Int → α → α} {a : α} {k : Int} (h : 0 ≤ k) : fo f a (k + 1).toNat = f k (fo f a k.toNat) := by
  obtain ⟨n, rfl⟩ := Int.eq_ofNat_of_zero_le h
  rfl
theorem fo_ind {α : Type} {f : Int → α → α} {a : α} (P : Int → α → Prop) (h0 : P 0 a) {N : Nat} (hs : ∀ (k : Int) (s : α), 0 ≤ k → k < N → P k s → P (k + 1) (f k s)) : ∀ n : Nat, n ≤ N → P n (fo f a n)
  | 0, _ => h0
  | n + 1, hn => by
    have := hs n (fo f a n) (by omega) (by omega) (fo_ind P h0 hs n (by omega))
    exact this
theorem fo_cg {α : Type} {f g : Int → α → α} {a : α} (n : Int) (h : ∀ (k : Int) (s : α), 0 ≤ k → k < n → f k s = g k s) : fo f a n.toNat = fo g a n.toNat := by
  have key : ∀ m : Nat, (m : Int) ≤ n → fo f a m = fo g a m := by
    intro m
    induction m with
    | zero => intro _; rfl
    | succ m ih => intro hm; show f m (fo f a m) = g m (fo g a m); rw [ih (by omega)]; exact h _ _ (by omega) (by omega)
  rcases Int.lt_or_le n 0 with hn | hn
  · rw [show n.toNat = 0 by omega]; rfl
  · exact key _ (by omega)
/-- a sum -/
def sm (g : Int → Int) (n : Int) : Int := fo (fun k s => s + g k) 0 n.toNat
theorem sm_0 (g : Int → Int) : sm g 0 = 0 := rfl
theorem sm_s {g : Int → Int} {k : Int} (h : 0 ≤ k) : sm g (k + 1) = sm g k + g k := fo_s h
theorem sm_cg {g h : Int → Int} (n : Int) (e : ∀ k, 0 ≤ k → k < n → g k = h k) : sm g n = sm h n := fo_cg n (fun k s h0 h1 => by rw [e k h0 h1])
theorem sm_b {g : Int → Int} {n : Nat} {m : Int} (e : ∀ k, 0 ≤ k → k < (n : Int) → 0 ≤ g k ∧ g k ≤ m) : ∀ j : Nat, j ≤ n → 0 ≤ sm g j ∧ sm g j ≤ m * j
  | 0, _ => by show (0 : Int) ≤ 0 ∧ (0 : Int) ≤ m * 0; omega
  | j + 1, hj => by
    obtain ⟨a, b⟩ := sm_b e j (by omega)
    obtain ⟨c, d⟩ := e j (by omega) (by omega)
    have : sm g ((j + 1 : Nat) : Int) = sm g j + g j := rfl
    have h2 : m * ((j + 1 : Nat) : Int) = m * j + m := by rw [Int.natCast_add, Int.mul_add]; omega
    omega
/-- bits -/
def bt (a : Int) (i : Nat) : Bool := (Int32.ofInt a).toBitVec.getLsbD i
theorem b_ext {x y : Int} (hx : -2147483648 ≤ x ∧ x < 2147483648) (hy : -2147483648 ≤ y ∧ y < 2147483648) (h : ∀ i, i < 32 → bt x i = bt y i) : x = y := by
  have e : Int32.ofInt x = Int32.ofInt y := Int32.toBitVec_inj.mp (BitVec.eq_of_getLsbD_eq (fun i hi => h i hi))
  have h1 : (Int32.ofInt x).toInt = x := Int32.toInt_ofInt_of_le (by omega) (by omega)
  have h2 : (Int32.ofInt y).toInt = y := Int32.toInt_ofInt_of_le (by omega) (by omega)
  rw [← h1, ← h2, e]
theorem b_back (x : Int32) : Int32.ofInt x.toInt = x := Int32.ofInt_toInt x
theorem b_and (a b : Int) (i : Nat) : bt (mx_and a b) i = (bt a i && bt b i) := by unfold bt mx_and; rw [b_back, Int32.toBitVec_and, BitVec.getLsbD_and]
theorem b_or (a b : Int) (i : Nat) : bt (mx_or a b) i = (bt a i || bt b i) := by unfold bt mx_or; rw [b_back, Int32.toBitVec_or, BitVec.getLsbD_or]
theorem b_xor (a b : Int) (i : Nat) : bt (mx_xor a b) i = (bt a i ^^ bt b i) := by unfold bt mx_xor; rw [b_back, Int32.toBitVec_xor, BitVec.getLsbD_xor]
theorem b_big {a : Int} {i : Nat} (h : 32 ≤ i) : bt a i = false := BitVec.getLsbD_of_ge _ _ h
theorem b_m1 : ∀ i, i < 32 → bt (-1) i = true := by decide +kernel
theorem b_zero : ∀ i, i < 32 → bt 0 i = false := by decide +kernel
theorem b_one : ∀ i, i < 32 → bt 1 i = decide (i = 0) := by decide +kernel
theorem b_sl : ∀ n, n < 32 → ((Int32.ofInt (n : Nat) &&& 31).toBitVec.smod 32).toNat = n := by decide +kernel
theorem b_shl (n : Nat) (hn : n < 32) (a : Int) {i : Nat} (hi : i < 32) : bt (mx_shl a n) i = (decide (n ≤ i) && bt a (i - n)) := by
  unfold bt mx_shl
  rw [b_back, Int32.toBitVec_shiftLeft]
  show ((Int32.ofInt a).toBitVec <<< ((Int32.ofInt n &&& 31).toBitVec.smod 32).toNat).getLsbD i = _
  rw [b_sl n hn, BitVec.getLsbD_shiftLeft]
  rcases Nat.lt_or_ge i n with h | h
  · simp [h, Nat.not_le.mpr h]
  · simp [hi, h, Nat.not_lt.mpr h]
theorem b_shr (n : Nat) (hn : n < 32) (a : Int) {i : Nat} (hi : i < 32) : bt (mx_shr a n) i = if n + i < 32 then bt a (n + i) else bt a 31 := by
  unfold bt mx_shr
  rw [b_back, Int32.toBitVec_shiftRight]
  show ((Int32.ofInt a).toBitVec.sshiftRight ((Int32.ofInt n &&& 31).toBitVec.smod 32).toNat).getLsbD i = _
  rw [b_sl n hn, BitVec.getLsbD_sshiftRight, BitVec.msb_eq_getLsbD_last]
  simp [hi]
theorem b_bit (n : Nat) (hn : n < 32) {i : Nat} (hi : i < 32) : bt (mx_shl 1 n) i = decide (i = n) := by
  rw [b_shl n hn 1 hi, b_one _ (by omega)]
  by_cases h : i = n
  · subst h; simp
  · rw [decide_eq_false h]
    by_cases h2 : n ≤ i
    · rw [decide_eq_true h2, decide_eq_false (by omega)]; rfl
    · rw [decide_eq_false h2]; rfl
/-- the test of a bit -/
theorem b_tst {a k : Int} (hk : 0 ≤ k ∧ k < 32) : mx_and (mx_shr a k) 1 = 1 ↔ bt a k.toNat = true := by
  obtain ⟨n, rfl⟩ := Int.eq_ofNat_of_zero_le hk.1
  have hn : n < 32 := by omega
  have e : ∀ i, i < 32 → bt (mx_and (mx_shr a n) 1) i = (decide (i = 0) && bt a n) := by
    intro i hi
    rw [b_and, b_shr n hn a hi, b_one i hi]
    by_cases h : i = 0
    · subst h; simp [hn]
    · simp [h]
  show _ ↔ bt a n = true
  constructor
  · intro h
    have := e 0 (by omega)
    rw [h] at this
    simpa [b_one] using this.symm
  · intro h
    refine b_ext (mx_and_r _ _) (by omega) (fun i hi => ?_)
    rw [e i hi, h, b_one i hi]; simp
theorem b_tst0 {a k : Int} (hk : 0 ≤ k ∧ k < 32) : mx_and (mx_shr a k) 1 = 0 ↔ bt a k.toNat = false := by
  obtain ⟨n, rfl⟩ := Int.eq_ofNat_of_zero_le hk.1
  have hn : n < 32 := by omega
  have e : ∀ i, i < 32 → bt (mx_and (mx_shr a n) 1) i = (decide (i = 0) && bt a n) := by
    intro i hi
    rw [b_and, b_shr n hn a hi, b_one i hi]
    by_cases h : i = 0
    · subst h; simp [hn]
    · simp [h]
  show _ ↔ bt a n = false
  constructor
  · intro h
    have := e 0 (by omega)
    rw [h] at this
    simpa [b_zero] using this.symm
  · intro h
    refine b_ext (mx_and_r _ _) (by omega) (fun i hi => ?_)
    rw [e i hi, h, b_zero i hi]; simp
/-- an int below 2 ^ n has no bit from n on -/
theorem b_hi {a : Int} {n i : Nat} (h0 : 0 ≤ a) (h : a < (2 ^ n : Nat)) (hn : n ≤ i) (h31 : a < 2147483648) : bt a i = false := by
  obtain ⟨m, rfl⟩ := Int.eq_ofNat_of_zero_le h0
  unfold bt
  rw [show (Int32.ofInt (m : Int)).toBitVec = BitVec.ofNat 32 m from by rw [Int32.toBitVec_ofInt]; exact BitVec.ofInt_natCast 32 m]
  rw [BitVec.getLsbD_ofNat]
  have h2 : m < 2 ^ n := by omega
  have : m.testBit i = false := Nat.testBit_lt_two_pow (Nat.lt_of_lt_of_le h2 (Nat.pow_le_pow_right (by omega) hn))
  rw [this]; simp
theorem b_lo {a : Int} {n : Nat} (hr : -2147483648 ≤ a ∧ a < 2147483648) (hn : n < 32) (h : ∀ i, n ≤ i → i < 32 → bt a i = false) : 0 ≤ a ∧ a < (2 ^ n : Nat) := by
  have e : (Int32.ofInt a).toInt = a := Int32.toInt_ofInt_of_le (by omega) (by omega)
  have hx : (Int32.ofInt a).toBitVec.toNat < 2 ^ n := by
    apply Nat.lt_pow_two_of_testBit
    intro i hi
    rw [BitVec.testBit_toNat]
    rcases Nat.lt_or_ge i 32 with h2 | h2
    · exact h i hi h2
    · exact BitVec.getLsbD_of_ge _ _ h2
  have h31 : (Int32.ofInt a).toBitVec.msb = false := by rw [BitVec.msb_eq_getLsbD_last]; exact h 31 (by omega) (by omega)
  have e2 : (Int32.ofInt a).toInt = ((Int32.ofInt a).toBitVec.toNat : Int) := by
    show (Int32.ofInt a).toBitVec.toInt = _
    rw [BitVec.toInt_eq_msb_cond, h31]; rfl
  rw [e] at e2
  omega
/-- how many of the lowest nine bits are set -/
def pop (a : Int) : Int := sm (fun i => if bt a i.toNat then 1 else 0) 9
theorem pop_r (a : Int) : 0 ≤ pop a ∧ pop a ≤ 9 := by
  have := sm_b (g := fun i => if bt a i.toNat then 1 else 0) (n := 9) (m := 1) (fun k _ _ => by show 0 ≤ (if _ then (1 : Int) else 0) ∧ (if _ then (1 : Int) else 0) ≤ 1; split <;> omega) 9 (by omega)
  exact ⟨this.1, by have := this.2; show sm _ ((9 : Nat) : Int) ≤ 9; omega⟩
theorem pop_i : ∀ n : Nat, n < 512 → n ≠ 0 → (0 ≤ mx_and n ((n : Int) - 1) ∧ mx_and n ((n : Int) - 1) < 512) ∧ pop (mx_and n ((n : Int) - 1)) + 1 = pop n := by decide +kernel
theorem pop_0 : pop 0 = 0 := by decide +kernel
theorem pop_n0 : ∀ n : Nat, n < 512 → pop n = 0 → n = 0 := by decide +kernel
theorem pop_p {a : Int} (h : 0 ≤ a ∧ a < 512) (h0 : a ≠ 0) : (0 ≤ mx_and a (a - 1) ∧ mx_and a (a - 1) < 512) ∧ pop (mx_and a (a - 1)) + 1 = pop a := by
  obtain ⟨n, rfl⟩ := Int.eq_ofNat_of_zero_le h.1
  exact pop_i n (by omega) (by omega)
theorem pop_j : ∀ n : Nat, n < 512 → (fun i : Int => mx_and ((fun i : Int => i + mx_ushr i 16) ((fun i : Int => i + mx_ushr i 8) ((fun i : Int => mx_and (i + mx_ushr i 4) 252645135) ((fun i : Int => mx_and i 858993459 + mx_and (mx_ushr i 2) 858993459) ((fun i : Int => i - mx_and (mx_ushr i 1) 1431655765) i))))) 63) (n : Int) = pop n := by decide +kernel
/-- the bounds of memory, where it is written -/
theorem Bd_up {S : rS} {a i v : Int} (h : Bd S) (h1 : bd_lo a i ≤ v) (h2 : v ≤ bd_hi a i) : Bd (mx_up S a i v) := by
  intro b j
  unfold mx_up
  split
  · next q => obtain ⟨rfl, rfl⟩ := q; exact ⟨h1, h2⟩
  · exact h b j
theorem up_eq {S : rS} {a i v : Int} : mx_up S a i v a i = v := by unfold mx_up; rw [if_pos ⟨rfl, rfl⟩]
theorem up_ne {S : rS} {a i v b j : Int} (h : ¬ (b = a ∧ j = i)) : mx_up S a i v b j = S b j := by unfold mx_up; rw [if_neg h]
/-- rows of tables -/
theorem shr_5 {S : rS} {i : Int} (h : 0 ≤ i ∧ i < 20) : mx_shp (mx_mm S) (5 + i) = (100, 6) := by
  obtain ⟨n, rfl⟩ := Int.eq_ofNat_of_zero_le h.1
  exact (by decide +kernel : ∀ n : Nat, n < 20 → mx_SH.getD (5 + n) (99, 0) = (100, 6)) n (by omega)
theorem shr_31 {S : rS} {i : Int} (h : 0 ≤ i ∧ i < 7) : mx_shp (mx_mm S) (31 + i) = (100, 8) := by
  obtain ⟨n, rfl⟩ := Int.eq_ofNat_of_zero_le h.1
  exact (by decide +kernel : ∀ n : Nat, n < 7 → mx_SH.getD (31 + n) (99, 0) = (100, 8)) n (by omega)
theorem bdl_31 {i j : Int} (h : 0 ≤ i ∧ i < 7) : bd_lo (31 + i) j = 0 ∧ bd_hi (31 + i) j = 25 := by
  obtain ⟨n, rfl⟩ := Int.eq_ofNat_of_zero_le h.1
  have hn : n < 7 := by omega
  match n, hn with
  | 0, _ => exact ⟨rfl, rfl⟩
  | 1, _ => exact ⟨rfl, rfl⟩
  | 2, _ => exact ⟨rfl, rfl⟩
  | 3, _ => exact ⟨rfl, rfl⟩
  | 4, _ => exact ⟨rfl, rfl⟩
  | 5, _ => exact ⟨rfl, rfl⟩
  | 6, _ => exact ⟨rfl, rfl⟩
theorem bdr_31 {S : rS} (hB : Bd S) {i : Int} (h : 0 ≤ i ∧ i < 7) (j : Int) : 0 ≤ S (31 + i) j ∧ S (31 + i) j ≤ 25 := by
  have q := hB (31 + i) j
  rw [(bdl_31 h).1, (bdl_31 h).2] at q
  exact q
theorem shr_43 {S : rS} {i : Int} (h : 0 ≤ i ∧ i < 8) : mx_shp (mx_mm S) (43 + i) = (100, 8) := by
  obtain ⟨n, rfl⟩ := Int.eq_ofNat_of_zero_le h.1
  exact (by decide +kernel : ∀ n : Nat, n < 8 → mx_SH.getD (43 + n) (99, 0) = (100, 8)) n (by omega)
theorem bdl_43 {i j : Int} (h : 0 ≤ i ∧ i < 8) : bd_lo (43 + i) j = 0 ∧ bd_hi (43 + i) j = 25 := by
  obtain ⟨n, rfl⟩ := Int.eq_ofNat_of_zero_le h.1
  have hn : n < 8 := by omega
  match n, hn with
  | 0, _ => exact ⟨rfl, rfl⟩
  | 1, _ => exact ⟨rfl, rfl⟩
  | 2, _ => exact ⟨rfl, rfl⟩
  | 3, _ => exact ⟨rfl, rfl⟩
  | 4, _ => exact ⟨rfl, rfl⟩
  | 5, _ => exact ⟨rfl, rfl⟩
  | 6, _ => exact ⟨rfl, rfl⟩
  | 7, _ => exact ⟨rfl, rfl⟩
theorem bdr_43 {S : rS} (hB : Bd S) {i : Int} (h : 0 ≤ i ∧ i < 8) (j : Int) : 0 ≤ S (43 + i) j ∧ S (43 + i) j ≤ 25 := by
  have q := hB (43 + i) j
  rw [(bdl_43 h).1, (bdl_43 h).2] at q
  exact q
theorem shr_52 {S : rS} {i : Int} (h : 0 ≤ i ∧ i < 7) : mx_shp (mx_mm S) (52 + i) = (100, 7) := by
  obtain ⟨n, rfl⟩ := Int.eq_ofNat_of_zero_le h.1
  exact (by decide +kernel : ∀ n : Nat, n < 7 → mx_SH.getD (52 + n) (99, 0) = (100, 7)) n (by omega)
theorem bdl_52 {i j : Int} (h : 0 ≤ i ∧ i < 7) : bd_lo (52 + i) j = 0 ∧ bd_hi (52 + i) j = 1000000 := by
  obtain ⟨n, rfl⟩ := Int.eq_ofNat_of_zero_le h.1
  have hn : n < 7 := by omega
  match n, hn with
  | 0, _ => exact ⟨rfl, rfl⟩
  | 1, _ => exact ⟨rfl, rfl⟩
  | 2, _ => exact ⟨rfl, rfl⟩
  | 3, _ => exact ⟨rfl, rfl⟩
  | 4, _ => exact ⟨rfl, rfl⟩
  | 5, _ => exact ⟨rfl, rfl⟩
  | 6, _ => exact ⟨rfl, rfl⟩
theorem bdr_52 {S : rS} (hB : Bd S) {i : Int} (h : 0 ≤ i ∧ i < 7) (j : Int) : 0 ≤ S (52 + i) j ∧ S (52 + i) j ≤ 1000000 := by
  have q := hB (52 + i) j
  rw [(bdl_52 h).1, (bdl_52 h).2] at q
  exact q
theorem shr_90 {S : rS} {i : Int} (h : 0 ≤ i ∧ i < 128) : mx_shp (mx_mm S) (90 + i) = (100, 7) := by
  obtain ⟨n, rfl⟩ := Int.eq_ofNat_of_zero_le h.1
  exact (by decide +kernel : ∀ n : Nat, n < 128 → mx_SH.getD (90 + n) (99, 0) = (100, 7)) n (by omega)
theorem bdl_90_n (n : Nat) (j : Int) (h : n < 128) : bd_lo (90 + (n : Int)) j = 0 ∧ bd_hi (90 + (n : Int)) j = 1000000 := by
  by_cases h0 : n = 0
  · subst h0; exact ⟨rfl, rfl⟩
  by_cases h1 : n = 1
  · subst h1; exact ⟨rfl, rfl⟩
  by_cases h2 : n = 2
  · subst h2; exact ⟨rfl, rfl⟩
  by_cases h3 : n = 3
  · subst h3; exact ⟨rfl, rfl⟩
  by_cases h4 : n = 4
  · subst h4; exact ⟨rfl, rfl⟩
  by_cases h5 : n = 5
  · subst h5; exact ⟨rfl, rfl⟩
  by_cases h6 : n = 6
  · subst h6; exact ⟨rfl, rfl⟩
  by_cases h7 : n = 7
  · subst h7; exact ⟨rfl, rfl⟩
  by_cases h8 : n = 8
  · subst h8; exact ⟨rfl, rfl⟩
  by_cases h9 : n = 9
  · subst h9; exact ⟨rfl, rfl⟩
  by_cases h10 : n = 10
  · subst h10; exact ⟨rfl, rfl⟩
  by_cases h11 : n = 11
  · subst h11; exact ⟨rfl, rfl⟩
  by_cases h12 : n = 12
  · subst h12; exact ⟨rfl, rfl⟩
  by_cases h13 : n = 13
  · subst h13; exact ⟨rfl, rfl⟩
  by_cases h14 : n = 14
  · subst h14; exact ⟨rfl, rfl⟩
  by_cases h15 : n = 15
  · subst h15; exact ⟨rfl, rfl⟩
  by_cases h16 : n = 16
  · subst h16; exact ⟨rfl, rfl⟩
  by_cases h17 : n = 17
  · subst h17; exact ⟨rfl, rfl⟩
  by_cases h18 : n = 18
  · subst h18; exact ⟨rfl, rfl⟩
  by_cases h19 : n = 19
  · subst h19; exact ⟨rfl, rfl⟩
  by_cases h20 : n = 20
  · subst h20; exact ⟨rfl, rfl⟩
  by_cases h21 : n = 21
  · subst h21; exact ⟨rfl, rfl⟩
  by_cases h22 : n = 22
  · subst h22; exact ⟨rfl, rfl⟩
  by_cases h23 : n = 23
  · subst h23; exact ⟨rfl, rfl⟩
  by_cases h24 : n = 24
  · subst h24; exact ⟨rfl, rfl⟩
  by_cases h25 : n = 25
  · subst h25; exact ⟨rfl, rfl⟩
  by_cases h26 : n = 26
  · subst h26; exact ⟨rfl, rfl⟩
  by_cases h27 : n = 27
  · subst h27; exact ⟨rfl, rfl⟩
  by_cases h28 : n = 28
  · subst h28; exact ⟨rfl, rfl⟩
  by_cases h29 : n = 29
  · subst h29; exact ⟨rfl, rfl⟩
  by_cases h30 : n = 30
  · subst h30; exact ⟨rfl, rfl⟩
  by_cases h31 : n = 31
  · subst h31; exact ⟨rfl, rfl⟩
  by_cases h32 : n = 32
  · subst h32; exact ⟨rfl, rfl⟩
  by_cases h33 : n = 33
  · subst h33; exact ⟨rfl, rfl⟩
  by_cases h34 : n = 34
  · subst h34; exact ⟨rfl, rfl⟩
  by_cases h35 : n = 35
  · subst h35; exact ⟨rfl, rfl⟩
  by_cases h36 : n = 36
  · subst h36; exact ⟨rfl, rfl⟩
  by_cases h37 : n = 37
  · subst h37; exact ⟨rfl, rfl⟩
  by_cases h38 : n = 38
  · subst h38; exact ⟨rfl, rfl⟩
  by_cases h39 : n = 39
  · subst h39; exact ⟨rfl, rfl⟩
  by_cases h40 : n = 40
  · subst h40; exact ⟨rfl, rfl⟩
  by_cases h41 : n = 41
  · subst h41; exact ⟨rfl, rfl⟩
  by_cases h42 : n = 42
  · subst h42; exact ⟨rfl, rfl⟩
  by_cases h43 : n = 43
  · subst h43; exact ⟨rfl, rfl⟩
  by_cases h44 : n = 44
  · subst h44; exact ⟨rfl, rfl⟩
  by_cases h45 : n = 45
  · subst h45; exact ⟨rfl, rfl⟩
  by_cases h46 : n = 46
  · subst h46; exact ⟨rfl, rfl⟩
  by_cases h47 : n = 47
  · subst h47; exact ⟨rfl, rfl⟩
  by_cases h48 : n = 48
  · subst h48; exact ⟨rfl, rfl⟩
  by_cases h49 : n = 49
  · subst h49; exact ⟨rfl, rfl⟩
  by_cases h50 : n = 50
  · subst h50; exact ⟨rfl, rfl⟩
  by_cases h51 : n = 51
  · subst h51; exact ⟨rfl, rfl⟩
  by_cases h52 : n = 52
  · subst h52; exact ⟨rfl, rfl⟩
  by_cases h53 : n = 53
  · subst h53; exact ⟨rfl, rfl⟩
  by_cases h54 : n = 54
  · subst h54; exact ⟨rfl, rfl⟩
  by_cases h55 : n = 55
  · subst h55; exact ⟨rfl, rfl⟩
  by_cases h56 : n = 56
  · subst h56; exact ⟨rfl, rfl⟩
  by_cases h57 : n = 57
  · subst h57; exact ⟨rfl, rfl⟩
  by_cases h58 : n = 58
  · subst h58; exact ⟨rfl, rfl⟩
  by_cases h59 : n = 59
  · subst h59; exact ⟨rfl, rfl⟩
  by_cases h60 : n = 60
  · subst h60; exact ⟨rfl, rfl⟩
  by_cases h61 : n = 61
  · subst h61; exact ⟨rfl, rfl⟩
  by_cases h62 : n = 62
  · subst h62; exact ⟨rfl, rfl⟩
  by_cases h63 : n = 63
  · subst h63; exact ⟨rfl, rfl⟩
  by_cases h64 : n = 64
  · subst h64; exact ⟨rfl, rfl⟩
  by_cases h65 : n = 65
  · subst h65; exact ⟨rfl, rfl⟩
  by_cases h66 : n = 66
  · subst h66; exact ⟨rfl, rfl⟩
  by_cases h67 : n = 67
  · subst h67; exact ⟨rfl, rfl⟩
  by_cases h68 : n = 68
  · subst h68; exact ⟨rfl, rfl⟩
  by_cases h69 : n = 69
  · subst h69; exact ⟨rfl, rfl⟩
  by_cases h70 : n = 70
  · subst h70; exact ⟨rfl, rfl⟩
  by_cases h71 : n = 71
  · subst h71; exact ⟨rfl, rfl⟩
  by_cases h72 : n = 72
  · subst h72; exact ⟨rfl, rfl⟩
  by_cases h73 : n = 73
  · subst h73; exact ⟨rfl, rfl⟩
  by_cases h74 : n = 74
  · subst h74; exact ⟨rfl, rfl⟩
  by_cases h75 : n = 75
  · subst h75; exact ⟨rfl, rfl⟩
  by_cases h76 : n = 76
  · subst h76; exact ⟨rfl, rfl⟩
  by_cases h77 : n = 77
  · subst h77; exact ⟨rfl, rfl⟩
  by_cases h78 : n = 78
  · subst h78; exact ⟨rfl, rfl⟩
  by_cases h79 : n = 79
  · subst h79; exact ⟨rfl, rfl⟩
  by_cases h80 : n = 80
  · subst h80; exact ⟨rfl, rfl⟩
  by_cases h81 : n = 81
  · subst h81; exact ⟨rfl, rfl⟩
  by_cases h82 : n = 82
  · subst h82; exact ⟨rfl, rfl⟩
  by_cases h83 : n = 83
  · subst h83; exact ⟨rfl, rfl⟩
  by_cases h84 : n = 84
  · subst h84; exact ⟨rfl, rfl⟩
  by_cases h85 : n = 85
  · subst h85; exact ⟨rfl, rfl⟩
  by_cases h86 : n = 86
  · subst h86; exact ⟨rfl, rfl⟩
  by_cases h87 : n = 87
  · subst h87; exact ⟨rfl, rfl⟩
  by_cases h88 : n = 88
  · subst h88; exact ⟨rfl, rfl⟩
  by_cases h89 : n = 89
  · subst h89; exact ⟨rfl, rfl⟩
  by_cases h90 : n = 90
  · subst h90; exact ⟨rfl, rfl⟩
  by_cases h91 : n = 91
  · subst h91; exact ⟨rfl, rfl⟩
  by_cases h92 : n = 92
  · subst h92; exact ⟨rfl, rfl⟩
  by_cases h93 : n = 93
  · subst h93; exact ⟨rfl, rfl⟩
  by_cases h94 : n = 94
  · subst h94; exact ⟨rfl, rfl⟩
  by_cases h95 : n = 95
  · subst h95; exact ⟨rfl, rfl⟩
  by_cases h96 : n = 96
  · subst h96; exact ⟨rfl, rfl⟩
  by_cases h97 : n = 97
  · subst h97; exact ⟨rfl, rfl⟩
  by_cases h98 : n = 98
  · subst h98; exact ⟨rfl, rfl⟩
  by_cases h99 : n = 99
  · subst h99; exact ⟨rfl, rfl⟩
  by_cases h100 : n = 100
  · subst h100; exact ⟨rfl, rfl⟩
  by_cases h101 : n = 101
  · subst h101; exact ⟨rfl, rfl⟩
  by_cases h102 : n = 102
  · subst h102; exact ⟨rfl, rfl⟩
  by_cases h103 : n = 103
  · subst h103; exact ⟨rfl, rfl⟩
  by_cases h104 : n = 104
  · subst h104; exact ⟨rfl, rfl⟩
  by_cases h105 : n = 105
  · subst h105; exact ⟨rfl, rfl⟩
  by_cases h106 : n = 106
  · subst h106; exact ⟨rfl, rfl⟩
  by_cases h107 : n = 107
  · subst h107; exact ⟨rfl, rfl⟩
  by_cases h108 : n = 108
  · subst h108; exact ⟨rfl, rfl⟩
  by_cases h109 : n = 109
  · subst h109; exact ⟨rfl, rfl⟩
  by_cases h110 : n = 110
  · subst h110; exact ⟨rfl, rfl⟩
  by_cases h111 : n = 111
  · subst h111; exact ⟨rfl, rfl⟩
  by_cases h112 : n = 112
  · subst h112; exact ⟨rfl, rfl⟩
  by_cases h113 : n = 113
  · subst h113; exact ⟨rfl, rfl⟩
  by_cases h114 : n = 114
  · subst h114; exact ⟨rfl, rfl⟩
  by_cases h115 : n = 115
  · subst h115; exact ⟨rfl, rfl⟩
  by_cases h116 : n = 116
  · subst h116; exact ⟨rfl, rfl⟩
  by_cases h117 : n = 117
  · subst h117; exact ⟨rfl, rfl⟩
  by_cases h118 : n = 118
  · subst h118; exact ⟨rfl, rfl⟩
  by_cases h119 : n = 119
  · subst h119; exact ⟨rfl, rfl⟩
  by_cases h120 : n = 120
  · subst h120; exact ⟨rfl, rfl⟩
  by_cases h121 : n = 121
  · subst h121; exact ⟨rfl, rfl⟩
  by_cases h122 : n = 122
  · subst h122; exact ⟨rfl, rfl⟩
  by_cases h123 : n = 123
  · subst h123; exact ⟨rfl, rfl⟩
  by_cases h124 : n = 124
  · subst h124; exact ⟨rfl, rfl⟩
  by_cases h125 : n = 125
  · subst h125; exact ⟨rfl, rfl⟩
  by_cases h126 : n = 126
  · subst h126; exact ⟨rfl, rfl⟩
  have hl : n = 127 := by omega
  subst hl; exact ⟨rfl, rfl⟩
theorem bdl_90 {i j : Int} (h : 0 ≤ i ∧ i < 128) : bd_lo (90 + i) j = 0 ∧ bd_hi (90 + i) j = 1000000 := by
  obtain ⟨n, rfl⟩ := Int.eq_ofNat_of_zero_le h.1
  have hn : n < 128 := by omega
  exact bdl_90_n n j hn
theorem bdr_90 {S : rS} (hB : Bd S) {i : Int} (h : 0 ≤ i ∧ i < 128) (j : Int) : 0 ≤ S (90 + i) j ∧ S (90 + i) j ≤ 1000000 := by
  have q := hB (90 + i) j
  rw [(bdl_90 h).1, (bdl_90 h).2] at q
  exact q
/-- a set by its bits -/
noncomputable def bs (p : Int → Prop) (n : Int) : Int := fo (fun k s => @ite Int (p k) (Classical.propDecidable _) (mx_or s (mx_shl 1 k)) s) 0 n.toNat
theorem bs_0 (p : Int → Prop) : bs p 0 = 0 := rfl
theorem bs_t {p : Int → Prop} {k : Int} (h : 0 ≤ k) (hp : p k) : bs p (k + 1) = mx_or (bs p k) (mx_shl 1 k) := by
  unfold bs; rw [fo_s h, if_pos hp]
theorem bs_f {p : Int → Prop} {k : Int} (h : 0 ≤ k) (hp : ¬ p k) : bs p (k + 1) = bs p k := by
  unfold bs; rw [fo_s h, if_neg hp]
theorem bs_cg {p q : Int → Prop} (n : Int) (h : ∀ k, 0 ≤ k → k < n → (p k ↔ q k)) : bs p n = bs q n := fo_cg n (fun k s h0 h1 => by
  by_cases hp : p k
  · rw [if_pos hp, if_pos ((h k h0 h1).mp hp)]
  · rw [if_neg hp, if_neg (fun hq => hp ((h k h0 h1).mpr hq))])
theorem bs_r (p : Int → Prop) (n : Int) : -2147483648 ≤ bs p n ∧ bs p n < 2147483648 := by
  unfold bs
  cases n.toNat with
  | zero => exact ⟨by show (-2147483648 : Int) ≤ 0; omega, by show (0 : Int) < 2147483648; omega⟩
  | succ m =>
    have key : ∀ m : Nat, -2147483648 ≤ fo (fun k s => @ite Int (p k) (Classical.propDecidable _) (mx_or s (mx_shl 1 k)) s) 0 m ∧ fo (fun k s => @ite Int (p k) (Classical.propDecidable _) (mx_or s (mx_shl 1 k)) s) 0 m < 2147483648 := by
      intro m
      induction m with
      | zero => exact ⟨by show (-2147483648 : Int) ≤ 0; omega, by show (0 : Int) < 2147483648; omega⟩
      | succ m ih =>
        show -2147483648 ≤ (@ite Int (p m) (Classical.propDecidable _) _ _) ∧ (@ite Int (p m) (Classical.propDecidable _) _ _) < 2147483648
        split
        · exact mx_or_r _ _
        · exact ih
    exact key _
theorem bs_bt {p : Int → Prop} {n : Nat} (hn : n ≤ 31) {i : Nat} (hi : i < 32) : bt (bs p n) i = true ↔ i < n ∧ p i := by
  have key : ∀ m : Nat, m ≤ 31 → (bt (bs p m) i = true ↔ i < m ∧ p i) := by
    intro m
    induction m with
    | zero => intro _; rw [show bs p ((0 : Nat) : Int) = 0 from rfl, b_zero i hi]; simp
    | succ m ih =>
      intro hm
      have ih := ih (by omega)
      by_cases hp : p m
      · rw [show ((m + 1 : Nat) : Int) = (m : Int) + 1 from rfl, bs_t (by omega) hp, b_or, b_bit m (by omega) hi, Bool.or_eq_true, ih, decide_eq_true_eq]
        constructor
        · rintro (h | h)
          · exact ⟨by omega, h.2⟩
          · subst h; exact ⟨by omega, hp⟩
        · rintro ⟨h1, h2⟩
          by_cases h : i = m
          · exact Or.inr h
          · exact Or.inl ⟨by omega, h2⟩
      · rw [show ((m + 1 : Nat) : Int) = (m : Int) + 1 from rfl, bs_f (by omega) hp, ih]
        constructor
        · rintro ⟨h1, h2⟩; exact ⟨by omega, h2⟩
        · rintro ⟨h1, h2⟩
          refine ⟨?_, h2⟩
          rcases Nat.lt_or_ge i m with h | h
          · exact h
          · have : i = m := by omega
            subst this; exact absurd h2 hp
  exact key n hn
theorem bs_u {p : Int → Prop} {n : Nat} (hn : n ≤ 31) : 0 ≤ bs p n ∧ bs p n < (2 ^ n : Nat) := by
  rcases Nat.lt_or_ge n 32 with h | h
  · refine b_lo (bs_r p n) (by omega) (fun i h1 h2 => ?_)
    cases hb : bt (bs p n) i with
    | false => rfl
    | true => exact absurd ((bs_bt hn h2).mp hb).1 (by omega)
  · omega
abbrev tb (a k : Int) : Prop := bt a k.toNat = true
theorem pop_jj {a : Int} (h : 0 ≤ a ∧ a < 512) : (fun i : Int => mx_and ((fun i : Int => i + mx_ushr i 16) ((fun i : Int => i + mx_ushr i 8) ((fun i : Int => mx_and (i + mx_ushr i 4) 252645135) ((fun i : Int => mx_and i 858993459 + mx_and (mx_ushr i 2) 858993459) ((fun i : Int => i - mx_and (mx_ushr i 1) 1431655765) i))))) 63) a = pop a := by
  obtain ⟨n, rfl⟩ := Int.eq_ofNat_of_zero_le h.1
  exact pop_j n (by omega)
/-- classes of places -/
theorem bda_233 {S : rS} (hB : Bd S) (j : Int) : 0 ≤ S 233 j ∧ S 233 j ≤ 99 := by
  have q := hB 233 j
  have l : bd_lo 233 j = (if 0 ≤ j ∧ j ≤ 0 then 0 else if 1 ≤ j ∧ j ≤ 7 then 0 else if 8 ≤ j ∧ j ≤ 14 then 0 else if 15 ≤ j ∧ j ≤ 21 then 0 else if 22 ≤ j ∧ j ≤ 28 then 0 else if 29 ≤ j ∧ j ≤ 84 then 0 else if 85 ≤ j ∧ j ≤ 85 then 0 else if 86 ≤ j ∧ j ≤ 94 then 0 else if 95 ≤ j ∧ j ≤ 103 then 0 else if 104 ≤ j ∧ j ≤ 112 then 0 else if 113 ≤ j ∧ j ≤ 113 then 0 else if 114 ≤ j ∧ j ≤ 121 then 0 else if 122 ≤ j ∧ j ≤ 185 then 0 else if 186 ≤ j ∧ j ≤ 186 then 0 else 0) := rfl
  have h : bd_hi 233 j = (if 0 ≤ j ∧ j ≤ 0 then 7 else if 1 ≤ j ∧ j ≤ 7 then 3 else if 8 ≤ j ∧ j ≤ 14 then 3 else if 15 ≤ j ∧ j ≤ 21 then 9 else if 22 ≤ j ∧ j ≤ 28 then 8 else if 29 ≤ j ∧ j ≤ 84 then 25 else if 85 ≤ j ∧ j ≤ 85 then 9 else if 86 ≤ j ∧ j ≤ 94 then 6 else if 95 ≤ j ∧ j ≤ 103 then 6 else if 104 ≤ j ∧ j ≤ 112 then 30 else if 113 ≤ j ∧ j ≤ 113 then 8 else if 114 ≤ j ∧ j ≤ 121 then 8 else if 122 ≤ j ∧ j ≤ 185 then 25 else if 186 ≤ j ∧ j ≤ 186 then 99 else 0) := rfl
  rw [l, h] at q
  refine ⟨Int.le_trans ?_ q.1, Int.le_trans q.2 ?_⟩
  · repeat' split
    all_goals omega
  · repeat' split
    all_goals omega
theorem bdc_233_1 {S : rS} (hB : Bd S) (x : Int) : 0 ≤ S 233 (1 + x) ∧ S 233 (1 + x) ≤ 99 ∧ (0 ≤ x ∧ x < 7 → S 233 (1 + x) ≤ 3) := by
  have q := bda_233 hB (1 + x)
  refine ⟨q.1, q.2, fun hx => ?_⟩
  have q := (hB 233 (1 + x)).2
  rw [show bd_hi 233 (1 + x) = (if 0 ≤ (1 + x) ∧ (1 + x) ≤ 0 then 7 else if 1 ≤ (1 + x) ∧ (1 + x) ≤ 7 then 3 else if 8 ≤ (1 + x) ∧ (1 + x) ≤ 14 then 3 else if 15 ≤ (1 + x) ∧ (1 + x) ≤ 21 then 9 else if 22 ≤ (1 + x) ∧ (1 + x) ≤ 28 then 8 else if 29 ≤ (1 + x) ∧ (1 + x) ≤ 84 then 25 else if 85 ≤ (1 + x) ∧ (1 + x) ≤ 85 then 9 else if 86 ≤ (1 + x) ∧ (1 + x) ≤ 94 then 6 else if 95 ≤ (1 + x) ∧ (1 + x) ≤ 103 then 6 else if 104 ≤ (1 + x) ∧ (1 + x) ≤ 112 then 30 else if 113 ≤ (1 + x) ∧ (1 + x) ≤ 113 then 8 else if 114 ≤ (1 + x) ∧ (1 + x) ≤ 121 then 8 else if 122 ≤ (1 + x) ∧ (1 + x) ≤ 185 then 25 else if 186 ≤ (1 + x) ∧ (1 + x) ≤ 186 then 99 else 0) from rfl] at q
  refine Int.le_trans q ?_
  repeat' split
  all_goals omega
theorem bdc_233_8 {S : rS} (hB : Bd S) (x : Int) : 0 ≤ S 233 (8 + x) ∧ S 233 (8 + x) ≤ 99 ∧ (0 ≤ x ∧ x < 7 → S 233 (8 + x) ≤ 3) := by
  have q := bda_233 hB (8 + x)
  refine ⟨q.1, q.2, fun hx => ?_⟩
  have q := (hB 233 (8 + x)).2
  rw [show bd_hi 233 (8 + x) = (if 0 ≤ (8 + x) ∧ (8 + x) ≤ 0 then 7 else if 1 ≤ (8 + x) ∧ (8 + x) ≤ 7 then 3 else if 8 ≤ (8 + x) ∧ (8 + x) ≤ 14 then 3 else if 15 ≤ (8 + x) ∧ (8 + x) ≤ 21 then 9 else if 22 ≤ (8 + x) ∧ (8 + x) ≤ 28 then 8 else if 29 ≤ (8 + x) ∧ (8 + x) ≤ 84 then 25 else if 85 ≤ (8 + x) ∧ (8 + x) ≤ 85 then 9 else if 86 ≤ (8 + x) ∧ (8 + x) ≤ 94 then 6 else if 95 ≤ (8 + x) ∧ (8 + x) ≤ 103 then 6 else if 104 ≤ (8 + x) ∧ (8 + x) ≤ 112 then 30 else if 113 ≤ (8 + x) ∧ (8 + x) ≤ 113 then 8 else if 114 ≤ (8 + x) ∧ (8 + x) ≤ 121 then 8 else if 122 ≤ (8 + x) ∧ (8 + x) ≤ 185 then 25 else if 186 ≤ (8 + x) ∧ (8 + x) ≤ 186 then 99 else 0) from rfl] at q
  refine Int.le_trans q ?_
  repeat' split
  all_goals omega
theorem bdc_233_15 {S : rS} (hB : Bd S) (x : Int) : 0 ≤ S 233 (15 + x) ∧ S 233 (15 + x) ≤ 99 ∧ (0 ≤ x ∧ x < 7 → S 233 (15 + x) ≤ 9) := by
  have q := bda_233 hB (15 + x)
  refine ⟨q.1, q.2, fun hx => ?_⟩
  have q := (hB 233 (15 + x)).2
  rw [show bd_hi 233 (15 + x) = (if 0 ≤ (15 + x) ∧ (15 + x) ≤ 0 then 7 else if 1 ≤ (15 + x) ∧ (15 + x) ≤ 7 then 3 else if 8 ≤ (15 + x) ∧ (15 + x) ≤ 14 then 3 else if 15 ≤ (15 + x) ∧ (15 + x) ≤ 21 then 9 else if 22 ≤ (15 + x) ∧ (15 + x) ≤ 28 then 8 else if 29 ≤ (15 + x) ∧ (15 + x) ≤ 84 then 25 else if 85 ≤ (15 + x) ∧ (15 + x) ≤ 85 then 9 else if 86 ≤ (15 + x) ∧ (15 + x) ≤ 94 then 6 else if 95 ≤ (15 + x) ∧ (15 + x) ≤ 103 then 6 else if 104 ≤ (15 + x) ∧ (15 + x) ≤ 112 then 30 else if 113 ≤ (15 + x) ∧ (15 + x) ≤ 113 then 8 else if 114 ≤ (15 + x) ∧ (15 + x) ≤ 121 then 8 else if 122 ≤ (15 + x) ∧ (15 + x) ≤ 185 then 25 else if 186 ≤ (15 + x) ∧ (15 + x) ≤ 186 then 99 else 0) from rfl] at q
  refine Int.le_trans q ?_
  repeat' split
  all_goals omega
theorem bdc_233_22 {S : rS} (hB : Bd S) (x : Int) : 0 ≤ S 233 (22 + x) ∧ S 233 (22 + x) ≤ 99 ∧ (0 ≤ x ∧ x < 7 → S 233 (22 + x) ≤ 8) := by
  have q := bda_233 hB (22 + x)
  refine ⟨q.1, q.2, fun hx => ?_⟩
  have q := (hB 233 (22 + x)).2
  rw [show bd_hi 233 (22 + x) = (if 0 ≤ (22 + x) ∧ (22 + x) ≤ 0 then 7 else if 1 ≤ (22 + x) ∧ (22 + x) ≤ 7 then 3 else if 8 ≤ (22 + x) ∧ (22 + x) ≤ 14 then 3 else if 15 ≤ (22 + x) ∧ (22 + x) ≤ 21 then 9 else if 22 ≤ (22 + x) ∧ (22 + x) ≤ 28 then 8 else if 29 ≤ (22 + x) ∧ (22 + x) ≤ 84 then 25 else if 85 ≤ (22 + x) ∧ (22 + x) ≤ 85 then 9 else if 86 ≤ (22 + x) ∧ (22 + x) ≤ 94 then 6 else if 95 ≤ (22 + x) ∧ (22 + x) ≤ 103 then 6 else if 104 ≤ (22 + x) ∧ (22 + x) ≤ 112 then 30 else if 113 ≤ (22 + x) ∧ (22 + x) ≤ 113 then 8 else if 114 ≤ (22 + x) ∧ (22 + x) ≤ 121 then 8 else if 122 ≤ (22 + x) ∧ (22 + x) ≤ 185 then 25 else if 186 ≤ (22 + x) ∧ (22 + x) ≤ 186 then 99 else 0) from rfl] at q
  refine Int.le_trans q ?_
  repeat' split
  all_goals omega
theorem bdc_233_29 {S : rS} (hB : Bd S) (x : Int) : 0 ≤ S 233 (29 + x) ∧ S 233 (29 + x) ≤ 99 ∧ (0 ≤ x ∧ x < 56 → S 233 (29 + x) ≤ 25) := by
  have q := bda_233 hB (29 + x)
  refine ⟨q.1, q.2, fun hx => ?_⟩
  have q := (hB 233 (29 + x)).2
  rw [show bd_hi 233 (29 + x) = (if 0 ≤ (29 + x) ∧ (29 + x) ≤ 0 then 7 else if 1 ≤ (29 + x) ∧ (29 + x) ≤ 7 then 3 else if 8 ≤ (29 + x) ∧ (29 + x) ≤ 14 then 3 else if 15 ≤ (29 + x) ∧ (29 + x) ≤ 21 then 9 else if 22 ≤ (29 + x) ∧ (29 + x) ≤ 28 then 8 else if 29 ≤ (29 + x) ∧ (29 + x) ≤ 84 then 25 else if 85 ≤ (29 + x) ∧ (29 + x) ≤ 85 then 9 else if 86 ≤ (29 + x) ∧ (29 + x) ≤ 94 then 6 else if 95 ≤ (29 + x) ∧ (29 + x) ≤ 103 then 6 else if 104 ≤ (29 + x) ∧ (29 + x) ≤ 112 then 30 else if 113 ≤ (29 + x) ∧ (29 + x) ≤ 113 then 8 else if 114 ≤ (29 + x) ∧ (29 + x) ≤ 121 then 8 else if 122 ≤ (29 + x) ∧ (29 + x) ≤ 185 then 25 else if 186 ≤ (29 + x) ∧ (29 + x) ≤ 186 then 99 else 0) from rfl] at q
  refine Int.le_trans q ?_
  repeat' split
  all_goals omega
theorem bdc_233_86 {S : rS} (hB : Bd S) (x : Int) : 0 ≤ S 233 (86 + x) ∧ S 233 (86 + x) ≤ 99 ∧ (0 ≤ x ∧ x < 9 → S 233 (86 + x) ≤ 6) := by
  have q := bda_233 hB (86 + x)
  refine ⟨q.1, q.2, fun hx => ?_⟩
  have q := (hB 233 (86 + x)).2
  rw [show bd_hi 233 (86 + x) = (if 0 ≤ (86 + x) ∧ (86 + x) ≤ 0 then 7 else if 1 ≤ (86 + x) ∧ (86 + x) ≤ 7 then 3 else if 8 ≤ (86 + x) ∧ (86 + x) ≤ 14 then 3 else if 15 ≤ (86 + x) ∧ (86 + x) ≤ 21 then 9 else if 22 ≤ (86 + x) ∧ (86 + x) ≤ 28 then 8 else if 29 ≤ (86 + x) ∧ (86 + x) ≤ 84 then 25 else if 85 ≤ (86 + x) ∧ (86 + x) ≤ 85 then 9 else if 86 ≤ (86 + x) ∧ (86 + x) ≤ 94 then 6 else if 95 ≤ (86 + x) ∧ (86 + x) ≤ 103 then 6 else if 104 ≤ (86 + x) ∧ (86 + x) ≤ 112 then 30 else if 113 ≤ (86 + x) ∧ (86 + x) ≤ 113 then 8 else if 114 ≤ (86 + x) ∧ (86 + x) ≤ 121 then 8 else if 122 ≤ (86 + x) ∧ (86 + x) ≤ 185 then 25 else if 186 ≤ (86 + x) ∧ (86 + x) ≤ 186 then 99 else 0) from rfl] at q
  refine Int.le_trans q ?_
  repeat' split
  all_goals omega
theorem bdc_233_95 {S : rS} (hB : Bd S) (x : Int) : 0 ≤ S 233 (95 + x) ∧ S 233 (95 + x) ≤ 99 ∧ (0 ≤ x ∧ x < 9 → S 233 (95 + x) ≤ 6) := by
  have q := bda_233 hB (95 + x)
  refine ⟨q.1, q.2, fun hx => ?_⟩
  have q := (hB 233 (95 + x)).2
  rw [show bd_hi 233 (95 + x) = (if 0 ≤ (95 + x) ∧ (95 + x) ≤ 0 then 7 else if 1 ≤ (95 + x) ∧ (95 + x) ≤ 7 then 3 else if 8 ≤ (95 + x) ∧ (95 + x) ≤ 14 then 3 else if 15 ≤ (95 + x) ∧ (95 + x) ≤ 21 then 9 else if 22 ≤ (95 + x) ∧ (95 + x) ≤ 28 then 8 else if 29 ≤ (95 + x) ∧ (95 + x) ≤ 84 then 25 else if 85 ≤ (95 + x) ∧ (95 + x) ≤ 85 then 9 else if 86 ≤ (95 + x) ∧ (95 + x) ≤ 94 then 6 else if 95 ≤ (95 + x) ∧ (95 + x) ≤ 103 then 6 else if 104 ≤ (95 + x) ∧ (95 + x) ≤ 112 then 30 else if 113 ≤ (95 + x) ∧ (95 + x) ≤ 113 then 8 else if 114 ≤ (95 + x) ∧ (95 + x) ≤ 121 then 8 else if 122 ≤ (95 + x) ∧ (95 + x) ≤ 185 then 25 else if 186 ≤ (95 + x) ∧ (95 + x) ≤ 186 then 99 else 0) from rfl] at q
  refine Int.le_trans q ?_
  repeat' split
  all_goals omega
theorem bdc_233_104 {S : rS} (hB : Bd S) (x : Int) : 0 ≤ S 233 (104 + x) ∧ S 233 (104 + x) ≤ 99 ∧ (0 ≤ x ∧ x < 9 → S 233 (104 + x) ≤ 30) := by
  have q := bda_233 hB (104 + x)
  refine ⟨q.1, q.2, fun hx => ?_⟩
  have q := (hB 233 (104 + x)).2
  rw [show bd_hi 233 (104 + x) = (if 0 ≤ (104 + x) ∧ (104 + x) ≤ 0 then 7 else if 1 ≤ (104 + x) ∧ (104 + x) ≤ 7 then 3 else if 8 ≤ (104 + x) ∧ (104 + x) ≤ 14 then 3 else if 15 ≤ (104 + x) ∧ (104 + x) ≤ 21 then 9 else if 22 ≤ (104 + x) ∧ (104 + x) ≤ 28 then 8 else if 29 ≤ (104 + x) ∧ (104 + x) ≤ 84 then 25 else if 85 ≤ (104 + x) ∧ (104 + x) ≤ 85 then 9 else if 86 ≤ (104 + x) ∧ (104 + x) ≤ 94 then 6 else if 95 ≤ (104 + x) ∧ (104 + x) ≤ 103 then 6 else if 104 ≤ (104 + x) ∧ (104 + x) ≤ 112 then 30 else if 113 ≤ (104 + x) ∧ (104 + x) ≤ 113 then 8 else if 114 ≤ (104 + x) ∧ (104 + x) ≤ 121 then 8 else if 122 ≤ (104 + x) ∧ (104 + x) ≤ 185 then 25 else if 186 ≤ (104 + x) ∧ (104 + x) ≤ 186 then 99 else 0) from rfl] at q
  refine Int.le_trans q ?_
  repeat' split
  all_goals omega
theorem bdc_233_114 {S : rS} (hB : Bd S) (x : Int) : 0 ≤ S 233 (114 + x) ∧ S 233 (114 + x) ≤ 99 ∧ (0 ≤ x ∧ x < 8 → S 233 (114 + x) ≤ 8) := by
  have q := bda_233 hB (114 + x)
  refine ⟨q.1, q.2, fun hx => ?_⟩
  have q := (hB 233 (114 + x)).2
  rw [show bd_hi 233 (114 + x) = (if 0 ≤ (114 + x) ∧ (114 + x) ≤ 0 then 7 else if 1 ≤ (114 + x) ∧ (114 + x) ≤ 7 then 3 else if 8 ≤ (114 + x) ∧ (114 + x) ≤ 14 then 3 else if 15 ≤ (114 + x) ∧ (114 + x) ≤ 21 then 9 else if 22 ≤ (114 + x) ∧ (114 + x) ≤ 28 then 8 else if 29 ≤ (114 + x) ∧ (114 + x) ≤ 84 then 25 else if 85 ≤ (114 + x) ∧ (114 + x) ≤ 85 then 9 else if 86 ≤ (114 + x) ∧ (114 + x) ≤ 94 then 6 else if 95 ≤ (114 + x) ∧ (114 + x) ≤ 103 then 6 else if 104 ≤ (114 + x) ∧ (114 + x) ≤ 112 then 30 else if 113 ≤ (114 + x) ∧ (114 + x) ≤ 113 then 8 else if 114 ≤ (114 + x) ∧ (114 + x) ≤ 121 then 8 else if 122 ≤ (114 + x) ∧ (114 + x) ≤ 185 then 25 else if 186 ≤ (114 + x) ∧ (114 + x) ≤ 186 then 99 else 0) from rfl] at q
  refine Int.le_trans q ?_
  repeat' split
  all_goals omega
theorem bdc_233_122 {S : rS} (hB : Bd S) (x : Int) : 0 ≤ S 233 (122 + x) ∧ S 233 (122 + x) ≤ 99 ∧ (0 ≤ x ∧ x < 64 → S 233 (122 + x) ≤ 25) := by
  have q := bda_233 hB (122 + x)
  refine ⟨q.1, q.2, fun hx => ?_⟩
  have q := (hB 233 (122 + x)).2
  rw [show bd_hi 233 (122 + x) = (if 0 ≤ (122 + x) ∧ (122 + x) ≤ 0 then 7 else if 1 ≤ (122 + x) ∧ (122 + x) ≤ 7 then 3 else if 8 ≤ (122 + x) ∧ (122 + x) ≤ 14 then 3 else if 15 ≤ (122 + x) ∧ (122 + x) ≤ 21 then 9 else if 22 ≤ (122 + x) ∧ (122 + x) ≤ 28 then 8 else if 29 ≤ (122 + x) ∧ (122 + x) ≤ 84 then 25 else if 85 ≤ (122 + x) ∧ (122 + x) ≤ 85 then 9 else if 86 ≤ (122 + x) ∧ (122 + x) ≤ 94 then 6 else if 95 ≤ (122 + x) ∧ (122 + x) ≤ 103 then 6 else if 104 ≤ (122 + x) ∧ (122 + x) ≤ 112 then 30 else if 113 ≤ (122 + x) ∧ (122 + x) ≤ 113 then 8 else if 114 ≤ (122 + x) ∧ (122 + x) ≤ 121 then 8 else if 122 ≤ (122 + x) ∧ (122 + x) ≤ 185 then 25 else if 186 ≤ (122 + x) ∧ (122 + x) ≤ 186 then 99 else 0) from rfl] at q
  refine Int.le_trans q ?_
  repeat' split
  all_goals omega
theorem bda_234 {S : rS} (hB : Bd S) (j : Int) : 0 ≤ S 234 j ∧ S 234 j ≤ 99 := by
  have q := hB 234 j
  have l : bd_lo 234 j = (if 0 ≤ j ∧ j ≤ 0 then 0 else if 1 ≤ j ∧ j ≤ 7 then 0 else if 8 ≤ j ∧ j ≤ 14 then 0 else if 15 ≤ j ∧ j ≤ 21 then 0 else if 22 ≤ j ∧ j ≤ 28 then 0 else if 29 ≤ j ∧ j ≤ 84 then 0 else if 85 ≤ j ∧ j ≤ 85 then 0 else if 86 ≤ j ∧ j ≤ 94 then 0 else if 95 ≤ j ∧ j ≤ 103 then 0 else if 104 ≤ j ∧ j ≤ 112 then 0 else if 113 ≤ j ∧ j ≤ 113 then 0 else if 114 ≤ j ∧ j ≤ 121 then 0 else if 122 ≤ j ∧ j ≤ 185 then 0 else if 186 ≤ j ∧ j ≤ 186 then 0 else 0) := rfl
  have h : bd_hi 234 j = (if 0 ≤ j ∧ j ≤ 0 then 7 else if 1 ≤ j ∧ j ≤ 7 then 3 else if 8 ≤ j ∧ j ≤ 14 then 3 else if 15 ≤ j ∧ j ≤ 21 then 9 else if 22 ≤ j ∧ j ≤ 28 then 8 else if 29 ≤ j ∧ j ≤ 84 then 25 else if 85 ≤ j ∧ j ≤ 85 then 9 else if 86 ≤ j ∧ j ≤ 94 then 6 else if 95 ≤ j ∧ j ≤ 103 then 6 else if 104 ≤ j ∧ j ≤ 112 then 30 else if 113 ≤ j ∧ j ≤ 113 then 8 else if 114 ≤ j ∧ j ≤ 121 then 8 else if 122 ≤ j ∧ j ≤ 185 then 25 else if 186 ≤ j ∧ j ≤ 186 then 99 else 0) := rfl
  rw [l, h] at q
  refine ⟨Int.le_trans ?_ q.1, Int.le_trans q.2 ?_⟩
  · repeat' split
    all_goals omega
  · repeat' split
    all_goals omega
theorem bdc_234_1 {S : rS} (hB : Bd S) (x : Int) : 0 ≤ S 234 (1 + x) ∧ S 234 (1 + x) ≤ 99 ∧ (0 ≤ x ∧ x < 7 → S 234 (1 + x) ≤ 3) := by
  have q := bda_234 hB (1 + x)
  refine ⟨q.1, q.2, fun hx => ?_⟩
  have q := (hB 234 (1 + x)).2
  rw [show bd_hi 234 (1 + x) = (if 0 ≤ (1 + x) ∧ (1 + x) ≤ 0 then 7 else if 1 ≤ (1 + x) ∧ (1 + x) ≤ 7 then 3 else if 8 ≤ (1 + x) ∧ (1 + x) ≤ 14 then 3 else if 15 ≤ (1 + x) ∧ (1 + x) ≤ 21 then 9 else if 22 ≤ (1 + x) ∧ (1 + x) ≤ 28 then 8 else if 29 ≤ (1 + x) ∧ (1 + x) ≤ 84 then 25 else if 85 ≤ (1 + x) ∧ (1 + x) ≤ 85 then 9 else if 86 ≤ (1 + x) ∧ (1 + x) ≤ 94 then 6 else if 95 ≤ (1 + x) ∧ (1 + x) ≤ 103 then 6 else if 104 ≤ (1 + x) ∧ (1 + x) ≤ 112 then 30 else if 113 ≤ (1 + x) ∧ (1 + x) ≤ 113 then 8 else if 114 ≤ (1 + x) ∧ (1 + x) ≤ 121 then 8 else if 122 ≤ (1 + x) ∧ (1 + x) ≤ 185 then 25 else if 186 ≤ (1 + x) ∧ (1 + x) ≤ 186 then 99 else 0) from rfl] at q
  refine Int.le_trans q ?_
  repeat' split
  all_goals omega
theorem bdc_234_8 {S : rS} (hB : Bd S) (x : Int) : 0 ≤ S 234 (8 + x) ∧ S 234 (8 + x) ≤ 99 ∧ (0 ≤ x ∧ x < 7 → S 234 (8 + x) ≤ 3) := by
  have q := bda_234 hB (8 + x)
  refine ⟨q.1, q.2, fun hx => ?_⟩
  have q := (hB 234 (8 + x)).2
  rw [show bd_hi 234 (8 + x) = (if 0 ≤ (8 + x) ∧ (8 + x) ≤ 0 then 7 else if 1 ≤ (8 + x) ∧ (8 + x) ≤ 7 then 3 else if 8 ≤ (8 + x) ∧ (8 + x) ≤ 14 then 3 else if 15 ≤ (8 + x) ∧ (8 + x) ≤ 21 then 9 else if 22 ≤ (8 + x) ∧ (8 + x) ≤ 28 then 8 else if 29 ≤ (8 + x) ∧ (8 + x) ≤ 84 then 25 else if 85 ≤ (8 + x) ∧ (8 + x) ≤ 85 then 9 else if 86 ≤ (8 + x) ∧ (8 + x) ≤ 94 then 6 else if 95 ≤ (8 + x) ∧ (8 + x) ≤ 103 then 6 else if 104 ≤ (8 + x) ∧ (8 + x) ≤ 112 then 30 else if 113 ≤ (8 + x) ∧ (8 + x) ≤ 113 then 8 else if 114 ≤ (8 + x) ∧ (8 + x) ≤ 121 then 8 else if 122 ≤ (8 + x) ∧ (8 + x) ≤ 185 then 25 else if 186 ≤ (8 + x) ∧ (8 + x) ≤ 186 then 99 else 0) from rfl] at q
  refine Int.le_trans q ?_
  repeat' split
  all_goals omega
theorem bdc_234_15 {S : rS} (hB : Bd S) (x : Int) : 0 ≤ S 234 (15 + x) ∧ S 234 (15 + x) ≤ 99 ∧ (0 ≤ x ∧ x < 7 → S 234 (15 + x) ≤ 9) := by
  have q := bda_234 hB (15 + x)
  refine ⟨q.1, q.2, fun hx => ?_⟩
  have q := (hB 234 (15 + x)).2
  rw [show bd_hi 234 (15 + x) = (if 0 ≤ (15 + x) ∧ (15 + x) ≤ 0 then 7 else if 1 ≤ (15 + x) ∧ (15 + x) ≤ 7 then 3 else if 8 ≤ (15 + x) ∧ (15 + x) ≤ 14 then 3 else if 15 ≤ (15 + x) ∧ (15 + x) ≤ 21 then 9 else if 22 ≤ (15 + x) ∧ (15 + x) ≤ 28 then 8 else if 29 ≤ (15 + x) ∧ (15 + x) ≤ 84 then 25 else if 85 ≤ (15 + x) ∧ (15 + x) ≤ 85 then 9 else if 86 ≤ (15 + x) ∧ (15 + x) ≤ 94 then 6 else if 95 ≤ (15 + x) ∧ (15 + x) ≤ 103 then 6 else if 104 ≤ (15 + x) ∧ (15 + x) ≤ 112 then 30 else if 113 ≤ (15 + x) ∧ (15 + x) ≤ 113 then 8 else if 114 ≤ (15 + x) ∧ (15 + x) ≤ 121 then 8 else if 122 ≤ (15 + x) ∧ (15 + x) ≤ 185 then 25 else if 186 ≤ (15 + x) ∧ (15 + x) ≤ 186 then 99 else 0) from rfl] at q
  refine Int.le_trans q ?_
  repeat' split
  all_goals omega
theorem bdc_234_22 {S : rS} (hB : Bd S) (x : Int) : 0 ≤ S 234 (22 + x) ∧ S 234 (22 + x) ≤ 99 ∧ (0 ≤ x ∧ x < 7 → S 234 (22 + x) ≤ 8) := by
  have q := bda_234 hB (22 + x)
  refine ⟨q.1, q.2, fun hx => ?_⟩
  have q := (hB 234 (22 + x)).2
  rw [show bd_hi 234 (22 + x) = (if 0 ≤ (22 + x) ∧ (22 + x) ≤ 0 then 7 else if 1 ≤ (22 + x) ∧ (22 + x) ≤ 7 then 3 else if 8 ≤ (22 + x) ∧ (22 + x) ≤ 14 then 3 else if 15 ≤ (22 + x) ∧ (22 + x) ≤ 21 then 9 else if 22 ≤ (22 + x) ∧ (22 + x) ≤ 28 then 8 else if 29 ≤ (22 + x) ∧ (22 + x) ≤ 84 then 25 else if 85 ≤ (22 + x) ∧ (22 + x) ≤ 85 then 9 else if 86 ≤ (22 + x) ∧ (22 + x) ≤ 94 then 6 else if 95 ≤ (22 + x) ∧ (22 + x) ≤ 103 then 6 else if 104 ≤ (22 + x) ∧ (22 + x) ≤ 112 then 30 else if 113 ≤ (22 + x) ∧ (22 + x) ≤ 113 then 8 else if 114 ≤ (22 + x) ∧ (22 + x) ≤ 121 then 8 else if 122 ≤ (22 + x) ∧ (22 + x) ≤ 185 then 25 else if 186 ≤ (22 + x) ∧ (22 + x) ≤ 186 then 99 else 0) from rfl] at q
  refine Int.le_trans q ?_
  repeat' split
  all_goals omega
theorem bdc_234_29 {S : rS} (hB : Bd S) (x : Int) : 0 ≤ S 234 (29 + x) ∧ S 234 (29 + x) ≤ 99 ∧ (0 ≤ x ∧ x < 56 → S 234 (29 + x) ≤ 25) := by
  have q := bda_234 hB (29 + x)
  refine ⟨q.1, q.2, fun hx => ?_⟩
  have q := (hB 234 (29 + x)).2
  rw [show bd_hi 234 (29 + x) = (if 0 ≤ (29 + x) ∧ (29 + x) ≤ 0 then 7 else if 1 ≤ (29 + x) ∧ (29 + x) ≤ 7 then 3 else if 8 ≤ (29 + x) ∧ (29 + x) ≤ 14 then 3 else if 15 ≤ (29 + x) ∧ (29 + x) ≤ 21 then 9 else if 22 ≤ (29 + x) ∧ (29 + x) ≤ 28 then 8 else if 29 ≤ (29 + x) ∧ (29 + x) ≤ 84 then 25 else if 85 ≤ (29 + x) ∧ (29 + x) ≤ 85 then 9 else if 86 ≤ (29 + x) ∧ (29 + x) ≤ 94 then 6 else if 95 ≤ (29 + x) ∧ (29 + x) ≤ 103 then 6 else if 104 ≤ (29 + x) ∧ (29 + x) ≤ 112 then 30 else if 113 ≤ (29 + x) ∧ (29 + x) ≤ 113 then 8 else if 114 ≤ (29 + x) ∧ (29 + x) ≤ 121 then 8 else if 122 ≤ (29 + x) ∧ (29 + x) ≤ 185 then 25 else if 186 ≤ (29 + x) ∧ (29 + x) ≤ 186 then 99 else 0) from rfl] at q
  refine Int.le_trans q ?_
  repeat' split
  all_goals omega
theorem bdc_234_86 {S : rS} (hB : Bd S) (x : Int) : 0 ≤ S 234 (86 + x) ∧ S 234 (86 + x) ≤ 99 ∧ (0 ≤ x ∧ x < 9 → S 234 (86 + x) ≤ 6) := by
  have q := bda_234 hB (86 + x)
  refine ⟨q.1, q.2, fun hx => ?_⟩
  have q := (hB 234 (86 + x)).2
  rw [show bd_hi 234 (86 + x) = (if 0 ≤ (86 + x) ∧ (86 + x) ≤ 0 then 7 else if 1 ≤ (86 + x) ∧ (86 + x) ≤ 7 then 3 else if 8 ≤ (86 + x) ∧ (86 + x) ≤ 14 then 3 else if 15 ≤ (86 + x) ∧ (86 + x) ≤ 21 then 9 else if 22 ≤ (86 + x) ∧ (86 + x) ≤ 28 then 8 else if 29 ≤ (86 + x) ∧ (86 + x) ≤ 84 then 25 else if 85 ≤ (86 + x) ∧ (86 + x) ≤ 85 then 9 else if 86 ≤ (86 + x) ∧ (86 + x) ≤ 94 then 6 else if 95 ≤ (86 + x) ∧ (86 + x) ≤ 103 then 6 else if 104 ≤ (86 + x) ∧ (86 + x) ≤ 112 then 30 else if 113 ≤ (86 + x) ∧ (86 + x) ≤ 113 then 8 else if 114 ≤ (86 + x) ∧ (86 + x) ≤ 121 then 8 else if 122 ≤ (86 + x) ∧ (86 + x) ≤ 185 then 25 else if 186 ≤ (86 + x) ∧ (86 + x) ≤ 186 then 99 else 0) from rfl] at q
  refine Int.le_trans q ?_
  repeat' split
  all_goals omega
theorem bdc_234_95 {S : rS} (hB : Bd S) (x : Int) : 0 ≤ S 234 (95 + x) ∧ S 234 (95 + x) ≤ 99 ∧ (0 ≤ x ∧ x < 9 → S 234 (95 + x) ≤ 6) := by
  have q := bda_234 hB (95 + x)
  refine ⟨q.1, q.2, fun hx => ?_⟩
  have q := (hB 234 (95 + x)).2
  rw [show bd_hi 234 (95 + x) = (if 0 ≤ (95 + x) ∧ (95 + x) ≤ 0 then 7 else if 1 ≤ (95 + x) ∧ (95 + x) ≤ 7 then 3 else if 8 ≤ (95 + x) ∧ (95 + x) ≤ 14 then 3 else if 15 ≤ (95 + x) ∧ (95 + x) ≤ 21 then 9 else if 22 ≤ (95 + x) ∧ (95 + x) ≤ 28 then 8 else if 29 ≤ (95 + x) ∧ (95 + x) ≤ 84 then 25 else if 85 ≤ (95 + x) ∧ (95 + x) ≤ 85 then 9 else if 86 ≤ (95 + x) ∧ (95 + x) ≤ 94 then 6 else if 95 ≤ (95 + x) ∧ (95 + x) ≤ 103 then 6 else if 104 ≤ (95 + x) ∧ (95 + x) ≤ 112 then 30 else if 113 ≤ (95 + x) ∧ (95 + x) ≤ 113 then 8 else if 114 ≤ (95 + x) ∧ (95 + x) ≤ 121 then 8 else if 122 ≤ (95 + x) ∧ (95 + x) ≤ 185 then 25 else if 186 ≤ (95 + x) ∧ (95 + x) ≤ 186 then 99 else 0) from rfl] at q
  refine Int.le_trans q ?_
  repeat' split
  all_goals omega
theorem bdc_234_104 {S : rS} (hB : Bd S) (x : Int) : 0 ≤ S 234 (104 + x) ∧ S 234 (104 + x) ≤ 99 ∧ (0 ≤ x ∧ x < 9 → S 234 (104 + x) ≤ 30) := by
  have q := bda_234 hB (104 + x)
  refine ⟨q.1, q.2, fun hx => ?_⟩
  have q := (hB 234 (104 + x)).2
  rw [show bd_hi 234 (104 + x) = (if 0 ≤ (104 + x) ∧ (104 + x) ≤ 0 then 7 else if 1 ≤ (104 + x) ∧ (104 + x) ≤ 7 then 3 else if 8 ≤ (104 + x) ∧ (104 + x) ≤ 14 then 3 else if 15 ≤ (104 + x) ∧ (104 + x) ≤ 21 then 9 else if 22 ≤ (104 + x) ∧ (104 + x) ≤ 28 then 8 else if 29 ≤ (104 + x) ∧ (104 + x) ≤ 84 then 25 else if 85 ≤ (104 + x) ∧ (104 + x) ≤ 85 then 9 else if 86 ≤ (104 + x) ∧ (104 + x) ≤ 94 then 6 else if 95 ≤ (104 + x) ∧ (104 + x) ≤ 103 then 6 else if 104 ≤ (104 + x) ∧ (104 + x) ≤ 112 then 30 else if 113 ≤ (104 + x) ∧ (104 + x) ≤ 113 then 8 else if 114 ≤ (104 + x) ∧ (104 + x) ≤ 121 then 8 else if 122 ≤ (104 + x) ∧ (104 + x) ≤ 185 then 25 else if 186 ≤ (104 + x) ∧ (104 + x) ≤ 186 then 99 else 0) from rfl] at q
  refine Int.le_trans q ?_
  repeat' split
  all_goals omega
theorem bdc_234_114 {S : rS} (hB : Bd S) (x : Int) : 0 ≤ S 234 (114 + x) ∧ S 234 (114 + x) ≤ 99 ∧ (0 ≤ x ∧ x < 8 → S 234 (114 + x) ≤ 8) := by
  have q := bda_234 hB (114 + x)
  refine ⟨q.1, q.2, fun hx => ?_⟩
  have q := (hB 234 (114 + x)).2
  rw [show bd_hi 234 (114 + x) = (if 0 ≤ (114 + x) ∧ (114 + x) ≤ 0 then 7 else if 1 ≤ (114 + x) ∧ (114 + x) ≤ 7 then 3 else if 8 ≤ (114 + x) ∧ (114 + x) ≤ 14 then 3 else if 15 ≤ (114 + x) ∧ (114 + x) ≤ 21 then 9 else if 22 ≤ (114 + x) ∧ (114 + x) ≤ 28 then 8 else if 29 ≤ (114 + x) ∧ (114 + x) ≤ 84 then 25 else if 85 ≤ (114 + x) ∧ (114 + x) ≤ 85 then 9 else if 86 ≤ (114 + x) ∧ (114 + x) ≤ 94 then 6 else if 95 ≤ (114 + x) ∧ (114 + x) ≤ 103 then 6 else if 104 ≤ (114 + x) ∧ (114 + x) ≤ 112 then 30 else if 113 ≤ (114 + x) ∧ (114 + x) ≤ 113 then 8 else if 114 ≤ (114 + x) ∧ (114 + x) ≤ 121 then 8 else if 122 ≤ (114 + x) ∧ (114 + x) ≤ 185 then 25 else if 186 ≤ (114 + x) ∧ (114 + x) ≤ 186 then 99 else 0) from rfl] at q
  refine Int.le_trans q ?_
  repeat' split
  all_goals omega
theorem bdc_234_122 {S : rS} (hB : Bd S) (x : Int) : 0 ≤ S 234 (122 + x) ∧ S 234 (122 + x) ≤ 99 ∧ (0 ≤ x ∧ x < 64 → S 234 (122 + x) ≤ 25) := by
  have q := bda_234 hB (122 + x)
  refine ⟨q.1, q.2, fun hx => ?_⟩
  have q := (hB 234 (122 + x)).2
  rw [show bd_hi 234 (122 + x) = (if 0 ≤ (122 + x) ∧ (122 + x) ≤ 0 then 7 else if 1 ≤ (122 + x) ∧ (122 + x) ≤ 7 then 3 else if 8 ≤ (122 + x) ∧ (122 + x) ≤ 14 then 3 else if 15 ≤ (122 + x) ∧ (122 + x) ≤ 21 then 9 else if 22 ≤ (122 + x) ∧ (122 + x) ≤ 28 then 8 else if 29 ≤ (122 + x) ∧ (122 + x) ≤ 84 then 25 else if 85 ≤ (122 + x) ∧ (122 + x) ≤ 85 then 9 else if 86 ≤ (122 + x) ∧ (122 + x) ≤ 94 then 6 else if 95 ≤ (122 + x) ∧ (122 + x) ≤ 103 then 6 else if 104 ≤ (122 + x) ∧ (122 + x) ≤ 112 then 30 else if 113 ≤ (122 + x) ∧ (122 + x) ≤ 113 then 8 else if 114 ≤ (122 + x) ∧ (122 + x) ≤ 121 then 8 else if 122 ≤ (122 + x) ∧ (122 + x) ≤ 185 then 25 else if 186 ≤ (122 + x) ∧ (122 + x) ≤ 186 then 99 else 0) from rfl] at q
  refine Int.le_trans q ?_
  repeat' split
  all_goals omega
theorem bda_236 {S : rS} (hB : Bd S) (j : Int) : 0 ≤ S 236 j ∧ S 236 j ≤ 999 := by
  have q := hB 236 j
  have l : bd_lo 236 j = (if 0 ≤ j ∧ j ≤ 6 then 0 else if 7 ≤ j ∧ j ≤ 7 then 0 else if 8 ≤ j ∧ j ≤ 8 then 0 else if 9 ≤ j ∧ j ≤ 9 then 0 else if 10 ≤ j ∧ j ≤ 10 then 0 else if 11 ≤ j ∧ j ≤ 11 then 0 else 0) := rfl
  have h : bd_hi 236 j = (if 0 ≤ j ∧ j ≤ 6 then 255 else if 7 ≤ j ∧ j ≤ 7 then 99 else if 8 ≤ j ∧ j ≤ 8 then 999 else if 9 ≤ j ∧ j ≤ 9 then 127 else if 10 ≤ j ∧ j ≤ 10 then 9 else if 11 ≤ j ∧ j ≤ 11 then 6 else 0) := rfl
  rw [l, h] at q
  refine ⟨Int.le_trans ?_ q.1, Int.le_trans q.2 ?_⟩
  · repeat' split
    all_goals omega
  · repeat' split
    all_goals omega
theorem bdc_236_0 {S : rS} (hB : Bd S) (x : Int) : 0 ≤ S 236 (0 + x) ∧ S 236 (0 + x) ≤ 999 ∧ (0 ≤ x ∧ x < 7 → S 236 (0 + x) ≤ 255) := by
  have q := bda_236 hB (0 + x)
  refine ⟨q.1, q.2, fun hx => ?_⟩
  have q := (hB 236 (0 + x)).2
  rw [show bd_hi 236 (0 + x) = (if 0 ≤ (0 + x) ∧ (0 + x) ≤ 6 then 255 else if 7 ≤ (0 + x) ∧ (0 + x) ≤ 7 then 99 else if 8 ≤ (0 + x) ∧ (0 + x) ≤ 8 then 999 else if 9 ≤ (0 + x) ∧ (0 + x) ≤ 9 then 127 else if 10 ≤ (0 + x) ∧ (0 + x) ≤ 10 then 9 else if 11 ≤ (0 + x) ∧ (0 + x) ≤ 11 then 6 else 0) from rfl] at q
  refine Int.le_trans q ?_
  repeat' split
  all_goals omega
theorem mx_or0 {a : Int} (h : -2147483648 ≤ a ∧ a < 2147483648) : mx_or a 0 = a := b_ext (mx_or_r _ _) h (fun i hi => by rw [b_or, b_zero i hi, Bool.or_false])
theorem and_u {a b : Int} (n : Nat) (hn : n < 32) (h : 0 ≤ a ∧ a < (2 ^ n : Nat)) (h31 : a < 2147483648) : 0 ≤ mx_and a b ∧ mx_and a b < (2 ^ n : Nat) :=
  b_lo (mx_and_r _ _) hn (fun i h1 h2 => by rw [b_and, b_hi h.1 h.2 h1 h31]; rfl)
theorem or_u {a b : Int} (n : Nat) (hn : n < 32) (h : 0 ≤ a ∧ a < (2 ^ n : Nat)) (h2 : 0 ≤ b ∧ b < (2 ^ n : Nat)) (h31 : a < 2147483648) (h32 : b < 2147483648) : 0 ≤ mx_or a b ∧ mx_or a b < (2 ^ n : Nat) :=
  b_lo (mx_or_r _ _) hn (fun i h3 h4 => by rw [b_or, b_hi h.1 h.2 h3 h31, b_hi h2.1 h2.2 h3 h32]; rfl)
theorem shl_u {k : Int} (n : Nat) (hn : n < 32) (h : 0 ≤ k ∧ k < n) : 0 ≤ mx_shl 1 k ∧ mx_shl 1 k < (2 ^ n : Nat) := by
  obtain ⟨m, rfl⟩ := Int.eq_ofNat_of_zero_le h.1
  exact b_lo (mx_shl_r _ _) hn (fun i h1 h2 => by rw [b_bit m (by omega) h2, decide_eq_false (by omega)])
/-- rows of objects -/
theorem sho_63 {S : rS} {i : Int} (h : 0 ≤ i ∧ i < 8) : mx_shp (mx_mm S) (63 + 2 * i) = (5, 0) := by
  obtain ⟨n, rfl⟩ := Int.eq_ofNat_of_zero_le h.1
  have hn : n < 8 := by omega
  match n, hn with
  | 0, _ => rfl
  | 1, _ => rfl
  | 2, _ => rfl
  | 3, _ => rfl
  | 4, _ => rfl
  | 5, _ => rfl
  | 6, _ => rfl
  | 7, _ => rfl
theorem rfo_63 {i : Int} (h : 0 ≤ i ∧ i < 8) : mx_RF (63 + 2 * i) 0 = 64 + 2 * i := by
  obtain ⟨n, rfl⟩ := Int.eq_ofNat_of_zero_le h.1
  have hn : n < 8 := by omega
  match n, hn with
  | 0, _ => rfl
  | 1, _ => rfl
  | 2, _ => rfl
  | 3, _ => rfl
  | 4, _ => rfl
  | 5, _ => rfl
  | 6, _ => rfl
  | 7, _ => rfl
theorem bdp_631 {i : Int} (h : 0 ≤ i ∧ i < 8) : bd_lo (63 + 2 * i) 1 = 0 ∧ bd_hi (63 + 2 * i) 1 = 127 := by
  obtain ⟨n, rfl⟩ := Int.eq_ofNat_of_zero_le h.1
  have hn : n < 8 := by omega
  match n, hn with
  | 0, _ => exact ⟨rfl, rfl⟩
  | 1, _ => exact ⟨rfl, rfl⟩
  | 2, _ => exact ⟨rfl, rfl⟩
  | 3, _ => exact ⟨rfl, rfl⟩
  | 4, _ => exact ⟨rfl, rfl⟩
  | 5, _ => exact ⟨rfl, rfl⟩
  | 6, _ => exact ⟨rfl, rfl⟩
  | 7, _ => exact ⟨rfl, rfl⟩
theorem bdo_631 {S : rS} (hB : Bd S) {i : Int} (h : 0 ≤ i ∧ i < 8) : 0 ≤ S (63 + 2 * i) 1 ∧ S (63 + 2 * i) 1 ≤ 127 := by
  have q := hB (63 + 2 * i) 1
  rw [(bdp_631 h).1, (bdp_631 h).2] at q
  exact q
theorem bdp_632 {i : Int} (h : 0 ≤ i ∧ i < 8) : bd_lo (63 + 2 * i) 2 = 0 ∧ bd_hi (63 + 2 * i) 2 = 99 := by
  obtain ⟨n, rfl⟩ := Int.eq_ofNat_of_zero_le h.1
  have hn : n < 8 := by omega
  match n, hn with
  | 0, _ => exact ⟨rfl, rfl⟩
  | 1, _ => exact ⟨rfl, rfl⟩
  | 2, _ => exact ⟨rfl, rfl⟩
  | 3, _ => exact ⟨rfl, rfl⟩
  | 4, _ => exact ⟨rfl, rfl⟩
  | 5, _ => exact ⟨rfl, rfl⟩
  | 6, _ => exact ⟨rfl, rfl⟩
  | 7, _ => exact ⟨rfl, rfl⟩
theorem bdo_632 {S : rS} (hB : Bd S) {i : Int} (h : 0 ≤ i ∧ i < 8) : 0 ≤ S (63 + 2 * i) 2 ∧ S (63 + 2 * i) 2 ≤ 99 := by
  have q := hB (63 + 2 * i) 2
  rw [(bdp_632 h).1, (bdp_632 h).2] at q
  exact q
theorem bdp_633 {i : Int} (h : 0 ≤ i ∧ i < 8) : bd_lo (63 + 2 * i) 3 = 0 ∧ bd_hi (63 + 2 * i) 3 = 999 := by
  obtain ⟨n, rfl⟩ := Int.eq_ofNat_of_zero_le h.1
  have hn : n < 8 := by omega
  match n, hn with
  | 0, _ => exact ⟨rfl, rfl⟩
  | 1, _ => exact ⟨rfl, rfl⟩
  | 2, _ => exact ⟨rfl, rfl⟩
  | 3, _ => exact ⟨rfl, rfl⟩
  | 4, _ => exact ⟨rfl, rfl⟩
  | 5, _ => exact ⟨rfl, rfl⟩
  | 6, _ => exact ⟨rfl, rfl⟩
  | 7, _ => exact ⟨rfl, rfl⟩
theorem bdo_633 {S : rS} (hB : Bd S) {i : Int} (h : 0 ≤ i ∧ i < 8) : 0 ≤ S (63 + 2 * i) 3 ∧ S (63 + 2 * i) 3 ≤ 999 := by
  have q := hB (63 + 2 * i) 3
  rw [(bdp_633 h).1, (bdp_633 h).2] at q
  exact q
theorem bdp_634 {i : Int} (h : 0 ≤ i ∧ i < 8) : bd_lo (63 + 2 * i) 4 = 0 ∧ bd_hi (63 + 2 * i) 4 = 6 := by
  obtain ⟨n, rfl⟩ := Int.eq_ofNat_of_zero_le h.1
  have hn : n < 8 := by omega
  match n, hn with
  | 0, _ => exact ⟨rfl, rfl⟩
  | 1, _ => exact ⟨rfl, rfl⟩
  | 2, _ => exact ⟨rfl, rfl⟩
  | 3, _ => exact ⟨rfl, rfl⟩
  | 4, _ => exact ⟨rfl, rfl⟩
  | 5, _ => exact ⟨rfl, rfl⟩
  | 6, _ => exact ⟨rfl, rfl⟩
  | 7, _ => exact ⟨rfl, rfl⟩
theorem bdo_634 {S : rS} (hB : Bd S) {i : Int} (h : 0 ≤ i ∧ i < 8) : 0 ≤ S (63 + 2 * i) 4 ∧ S (63 + 2 * i) 4 ≤ 6 := by
  have q := hB (63 + 2 * i) 4
  rw [(bdp_634 h).1, (bdp_634 h).2] at q
  exact q
theorem bdp_635 {i : Int} (h : 0 ≤ i ∧ i < 8) : bd_lo (63 + 2 * i) 5 = 0 ∧ bd_hi (63 + 2 * i) 5 = 9 := by
  obtain ⟨n, rfl⟩ := Int.eq_ofNat_of_zero_le h.1
  have hn : n < 8 := by omega
  match n, hn with
  | 0, _ => exact ⟨rfl, rfl⟩
  | 1, _ => exact ⟨rfl, rfl⟩
  | 2, _ => exact ⟨rfl, rfl⟩
  | 3, _ => exact ⟨rfl, rfl⟩
  | 4, _ => exact ⟨rfl, rfl⟩
  | 5, _ => exact ⟨rfl, rfl⟩
  | 6, _ => exact ⟨rfl, rfl⟩
  | 7, _ => exact ⟨rfl, rfl⟩
theorem bdo_635 {S : rS} (hB : Bd S) {i : Int} (h : 0 ≤ i ∧ i < 8) : 0 ≤ S (63 + 2 * i) 5 ∧ S (63 + 2 * i) 5 ≤ 9 := by
  have q := hB (63 + 2 * i) 5
  rw [(bdp_635 h).1, (bdp_635 h).2] at q
  exact q
theorem sho_64 {S : rS} {i : Int} (h : 0 ≤ i ∧ i < 8) : mx_shp (mx_mm S) (64 + 2 * i) = (100, 7) := by
  obtain ⟨n, rfl⟩ := Int.eq_ofNat_of_zero_le h.1
  have hn : n < 8 := by omega
  match n, hn with
  | 0, _ => rfl
  | 1, _ => rfl
  | 2, _ => rfl
  | 3, _ => rfl
  | 4, _ => rfl
  | 5, _ => rfl
  | 6, _ => rfl
  | 7, _ => rfl
theorem bdp_64 {i : Int} (h : 0 ≤ i ∧ i < 8) (j : Int) : bd_lo (64 + 2 * i) j = 0 ∧ bd_hi (64 + 2 * i) j = 255 := by
  obtain ⟨n, rfl⟩ := Int.eq_ofNat_of_zero_le h.1
  have hn : n < 8 := by omega
  match n, hn with
  | 0, _ => exact ⟨rfl, rfl⟩
  | 1, _ => exact ⟨rfl, rfl⟩
  | 2, _ => exact ⟨rfl, rfl⟩
  | 3, _ => exact ⟨rfl, rfl⟩
  | 4, _ => exact ⟨rfl, rfl⟩
  | 5, _ => exact ⟨rfl, rfl⟩
  | 6, _ => exact ⟨rfl, rfl⟩
  | 7, _ => exact ⟨rfl, rfl⟩
theorem bdo_64 {S : rS} (hB : Bd S) {i : Int} (h : 0 ≤ i ∧ i < 8) (j : Int) : 0 ≤ S (64 + 2 * i) j ∧ S (64 + 2 * i) j ≤ 255 := by
  have q := hB (64 + 2 * i) j
  rw [(bdp_64 h j).1, (bdp_64 h j).2] at q
  exact q
theorem sho_220 {S : rS} {i : Int} (h : 0 ≤ i ∧ i < 2) : mx_shp (mx_mm S) (220 + 2 * i) = (5, 0) := by
  obtain ⟨n, rfl⟩ := Int.eq_ofNat_of_zero_le h.1
  have hn : n < 2 := by omega
  match n, hn with
  | 0, _ => rfl
  | 1, _ => rfl
theorem rfo_220 {i : Int} (h : 0 ≤ i ∧ i < 2) : mx_RF (220 + 2 * i) 0 = 221 + 2 * i := by
  obtain ⟨n, rfl⟩ := Int.eq_ofNat_of_zero_le h.1
  have hn : n < 2 := by omega
  match n, hn with
  | 0, _ => rfl
  | 1, _ => rfl
theorem bdp_2201 {i : Int} (h : 0 ≤ i ∧ i < 2) : bd_lo (220 + 2 * i) 1 = 0 ∧ bd_hi (220 + 2 * i) 1 = 127 := by
  obtain ⟨n, rfl⟩ := Int.eq_ofNat_of_zero_le h.1
  have hn : n < 2 := by omega
  match n, hn with
  | 0, _ => exact ⟨rfl, rfl⟩
  | 1, _ => exact ⟨rfl, rfl⟩
theorem bdo_2201 {S : rS} (hB : Bd S) {i : Int} (h : 0 ≤ i ∧ i < 2) : 0 ≤ S (220 + 2 * i) 1 ∧ S (220 + 2 * i) 1 ≤ 127 := by
  have q := hB (220 + 2 * i) 1
  rw [(bdp_2201 h).1, (bdp_2201 h).2] at q
  exact q
theorem bdp_2202 {i : Int} (h : 0 ≤ i ∧ i < 2) : bd_lo (220 + 2 * i) 2 = 0 ∧ bd_hi (220 + 2 * i) 2 = 99 := by
  obtain ⟨n, rfl⟩ := Int.eq_ofNat_of_zero_le h.1
  have hn : n < 2 := by omega
  match n, hn with
  | 0, _ => exact ⟨rfl, rfl⟩
  | 1, _ => exact ⟨rfl, rfl⟩
theorem bdo_2202 {S : rS} (hB : Bd S) {i : Int} (h : 0 ≤ i ∧ i < 2) : 0 ≤ S (220 + 2 * i) 2 ∧ S (220 + 2 * i) 2 ≤ 99 := by
  have q := hB (220 + 2 * i) 2
  rw [(bdp_2202 h).1, (bdp_2202 h).2] at q
  exact q
theorem bdp_2203 {i : Int} (h : 0 ≤ i ∧ i < 2) : bd_lo (220 + 2 * i) 3 = 0 ∧ bd_hi (220 + 2 * i) 3 = 999 := by
  obtain ⟨n, rfl⟩ := Int.eq_ofNat_of_zero_le h.1
  have hn : n < 2 := by omega
  match n, hn with
  | 0, _ => exact ⟨rfl, rfl⟩
  | 1, _ => exact ⟨rfl, rfl⟩
theorem bdo_2203 {S : rS} (hB : Bd S) {i : Int} (h : 0 ≤ i ∧ i < 2) : 0 ≤ S (220 + 2 * i) 3 ∧ S (220 + 2 * i) 3 ≤ 999 := by
  have q := hB (220 + 2 * i) 3
  rw [(bdp_2203 h).1, (bdp_2203 h).2] at q
  exact q
theorem bdp_2204 {i : Int} (h : 0 ≤ i ∧ i < 2) : bd_lo (220 + 2 * i) 4 = 0 ∧ bd_hi (220 + 2 * i) 4 = 6 := by
  obtain ⟨n, rfl⟩ := Int.eq_ofNat_of_zero_le h.1
  have hn : n < 2 := by omega
  match n, hn with
  | 0, _ => exact ⟨rfl, rfl⟩
  | 1, _ => exact ⟨rfl, rfl⟩
theorem bdo_2204 {S : rS} (hB : Bd S) {i : Int} (h : 0 ≤ i ∧ i < 2) : 0 ≤ S (220 + 2 * i) 4 ∧ S (220 + 2 * i) 4 ≤ 6 := by
  have q := hB (220 + 2 * i) 4
  rw [(bdp_2204 h).1, (bdp_2204 h).2] at q
  exact q
theorem bdp_2205 {i : Int} (h : 0 ≤ i ∧ i < 2) : bd_lo (220 + 2 * i) 5 = 0 ∧ bd_hi (220 + 2 * i) 5 = 9 := by
  obtain ⟨n, rfl⟩ := Int.eq_ofNat_of_zero_le h.1
  have hn : n < 2 := by omega
  match n, hn with
  | 0, _ => exact ⟨rfl, rfl⟩
  | 1, _ => exact ⟨rfl, rfl⟩
theorem bdo_2205 {S : rS} (hB : Bd S) {i : Int} (h : 0 ≤ i ∧ i < 2) : 0 ≤ S (220 + 2 * i) 5 ∧ S (220 + 2 * i) 5 ≤ 9 := by
  have q := hB (220 + 2 * i) 5
  rw [(bdp_2205 h).1, (bdp_2205 h).2] at q
  exact q
theorem sho_221 {S : rS} {i : Int} (h : 0 ≤ i ∧ i < 2) : mx_shp (mx_mm S) (221 + 2 * i) = (100, 7) := by
  obtain ⟨n, rfl⟩ := Int.eq_ofNat_of_zero_le h.1
  have hn : n < 2 := by omega
  match n, hn with
  | 0, _ => rfl
  | 1, _ => rfl
theorem bdp_221 {i : Int} (h : 0 ≤ i ∧ i < 2) (j : Int) : bd_lo (221 + 2 * i) j = 0 ∧ bd_hi (221 + 2 * i) j = 255 := by
  obtain ⟨n, rfl⟩ := Int.eq_ofNat_of_zero_le h.1
  have hn : n < 2 := by omega
  match n, hn with
  | 0, _ => exact ⟨rfl, rfl⟩
  | 1, _ => exact ⟨rfl, rfl⟩
theorem bdo_221 {S : rS} (hB : Bd S) {i : Int} (h : 0 ≤ i ∧ i < 2) (j : Int) : 0 ≤ S (221 + 2 * i) j ∧ S (221 + 2 * i) j ≤ 255 := by
  have q := hB (221 + 2 * i) j
  rw [(bdp_221 h j).1, (bdp_221 h j).2] at q
  exact q
theorem sho_224 {S : rS} {i : Int} (h : 0 ≤ i ∧ i < 4) : mx_shp (mx_mm S) (224 + 2 * i) = (3, 0) := by
  obtain ⟨n, rfl⟩ := Int.eq_ofNat_of_zero_le h.1
  have hn : n < 4 := by omega
  match n, hn with
  | 0, _ => rfl
  | 1, _ => rfl
  | 2, _ => rfl
  | 3, _ => rfl
theorem rfo_224 {i : Int} (h : 0 ≤ i ∧ i < 4) : mx_RF (224 + 2 * i) 3 = 225 + 2 * i := by
  obtain ⟨n, rfl⟩ := Int.eq_ofNat_of_zero_le h.1
  have hn : n < 4 := by omega
  match n, hn with
  | 0, _ => rfl
  | 1, _ => rfl
  | 2, _ => rfl
  | 3, _ => rfl
theorem bdp_2240 {i : Int} (h : 0 ≤ i ∧ i < 4) : bd_lo (224 + 2 * i) 0 = 0 ∧ bd_hi (224 + 2 * i) 0 = 1 := by
  obtain ⟨n, rfl⟩ := Int.eq_ofNat_of_zero_le h.1
  have hn : n < 4 := by omega
  match n, hn with
  | 0, _ => exact ⟨rfl, rfl⟩
  | 1, _ => exact ⟨rfl, rfl⟩
  | 2, _ => exact ⟨rfl, rfl⟩
  | 3, _ => exact ⟨rfl, rfl⟩
theorem bdo_2240 {S : rS} (hB : Bd S) {i : Int} (h : 0 ≤ i ∧ i < 4) : 0 ≤ S (224 + 2 * i) 0 ∧ S (224 + 2 * i) 0 ≤ 1 := by
  have q := hB (224 + 2 * i) 0
  rw [(bdp_2240 h).1, (bdp_2240 h).2] at q
  exact q
theorem bdp_2241 {i : Int} (h : 0 ≤ i ∧ i < 4) : bd_lo (224 + 2 * i) 1 = 0 ∧ bd_hi (224 + 2 * i) 1 = 2 := by
  obtain ⟨n, rfl⟩ := Int.eq_ofNat_of_zero_le h.1
  have hn : n < 4 := by omega
  match n, hn with
  | 0, _ => exact ⟨rfl, rfl⟩
  | 1, _ => exact ⟨rfl, rfl⟩
  | 2, _ => exact ⟨rfl, rfl⟩
  | 3, _ => exact ⟨rfl, rfl⟩
theorem bdo_2241 {S : rS} (hB : Bd S) {i : Int} (h : 0 ≤ i ∧ i < 4) : 0 ≤ S (224 + 2 * i) 1 ∧ S (224 + 2 * i) 1 ≤ 2 := by
  have q := hB (224 + 2 * i) 1
  rw [(bdp_2241 h).1, (bdp_2241 h).2] at q
  exact q
theorem bdp_2242 {i : Int} (h : 0 ≤ i ∧ i < 4) : bd_lo (224 + 2 * i) 2 = 0 ∧ bd_hi (224 + 2 * i) 2 = 24 := by
  obtain ⟨n, rfl⟩ := Int.eq_ofNat_of_zero_le h.1
  have hn : n < 4 := by omega
  match n, hn with
  | 0, _ => exact ⟨rfl, rfl⟩
  | 1, _ => exact ⟨rfl, rfl⟩
  | 2, _ => exact ⟨rfl, rfl⟩
  | 3, _ => exact ⟨rfl, rfl⟩
theorem bdo_2242 {S : rS} (hB : Bd S) {i : Int} (h : 0 ≤ i ∧ i < 4) : 0 ≤ S (224 + 2 * i) 2 ∧ S (224 + 2 * i) 2 ≤ 24 := by
  have q := hB (224 + 2 * i) 2
  rw [(bdp_2242 h).1, (bdp_2242 h).2] at q
  exact q
theorem sho_225 {S : rS} {i : Int} (h : 0 ≤ i ∧ i < 4) : mx_shp (mx_mm S) (225 + 2 * i) = (100, 24) := by
  obtain ⟨n, rfl⟩ := Int.eq_ofNat_of_zero_le h.1
  have hn : n < 4 := by omega
  match n, hn with
  | 0, _ => rfl
  | 1, _ => rfl
  | 2, _ => rfl
  | 3, _ => rfl
theorem bdp_225 {i : Int} (h : 0 ≤ i ∧ i < 4) (j : Int) : bd_lo (225 + 2 * i) j = -2147483648 ∧ bd_hi (225 + 2 * i) j = 2147483647 := by
  obtain ⟨n, rfl⟩ := Int.eq_ofNat_of_zero_le h.1
  have hn : n < 4 := by omega
  match n, hn with
  | 0, _ => exact ⟨rfl, rfl⟩
  | 1, _ => exact ⟨rfl, rfl⟩
  | 2, _ => exact ⟨rfl, rfl⟩
  | 3, _ => exact ⟨rfl, rfl⟩
theorem bdo_225 {S : rS} (hB : Bd S) {i : Int} (h : 0 ≤ i ∧ i < 4) (j : Int) : -2147483648 ≤ S (225 + 2 * i) j ∧ S (225 + 2 * i) j ≤ 2147483647 := by
  have q := hB (225 + 2 * i) j
  rw [(bdp_225 h j).1, (bdp_225 h j).2] at q
  exact q
