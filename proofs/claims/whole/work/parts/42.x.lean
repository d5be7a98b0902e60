/-! BOTH READERS AGREE -/
theorem rwf0 {T : Int → Int} {b : Int} : rwf T b 0 = 0 := rfl
theorem rwf1 {T : Int → Int} {b : Int} : rwf T b 1 = (0 * 256 + T (b + 0)) := rfl
theorem rwf2 {T : Int → Int} {b : Int} : rwf T b 2 = ((0 * 256 + T (b + 0)) * 256 + T (b + 1)) := rfl
theorem rwf3 {T : Int → Int} {b : Int} : rwf T b 3 = (((0 * 256 + T (b + 0)) * 256 + T (b + 1)) * 256 + T (b + 2)) := rfl
theorem rwf4 {T : Int → Int} {b : Int} : rwf T b 4 = ((((0 * 256 + T (b + 0)) * 256 + T (b + 1)) * 256 + T (b + 2)) * 256 + T (b + 3)) := rfl
theorem rwf5 {T : Int → Int} {b : Int} : rwf T b 5 = (((((0 * 256 + T (b + 0)) * 256 + T (b + 1)) * 256 + T (b + 2)) * 256 + T (b + 3)) * 256 + T (b + 4)) := rfl
theorem rwf6 {T : Int → Int} {b : Int} : rwf T b 6 = ((((((0 * 256 + T (b + 0)) * 256 + T (b + 1)) * 256 + T (b + 2)) * 256 + T (b + 3)) * 256 + T (b + 4)) * 256 + T (b + 5)) := rfl
theorem rwf7 {T : Int → Int} {b : Int} : rwf T b 7 = (((((((0 * 256 + T (b + 0)) * 256 + T (b + 1)) * 256 + T (b + 2)) * 256 + T (b + 3)) * 256 + T (b + 4)) * 256 + T (b + 5)) * 256 + T (b + 6)) := rfl
theorem rwf8 {T : Int → Int} {b : Int} : rwf T b 8 = -1 := rfl
theorem rwf_hi {T : Int → Int} {b m : Int} (h : 8 ≤ m) : rwf T b m = -1 := by
  unfold rwf
  rw [show m.toNat = (m - 1).toNat + 1 by omega]
  show (if (((m - 1).toNat : Nat) : Int) < 7 then _ else _) = _
  exact if_neg (by omega)
theorem rtk_1 {T : Int → Int} {n e : Int} (h : tkK T n e = 1) : rtk T n e = 1 := by
  unfold rtk; rw [h]; rfl
theorem tkQ_1 {T : Int → Int} {n e : Int} (h : tkK T n e = 1 ∨ tkK T n e = 2) : tkB T n e + 1 ≤ tkQ T n e := by
  unfold tkQ
  rw [if_neg (by omega), if_neg (by omega)]
  exact (scn_b _ n (tkB T n e + 1)).1
theorem wd_0 {T : Int → Int} {n e : Int} : (tkK T n e = 1 ∧ tkQ T n e - tkB T n e = 5 ∧ T (tkB T n e + 0) = 116 ∧ T (tkB T n e + 1) = 104 ∧ T (tkB T n e + 2) = 111 ∧ T (tkB T n e + 3) = 114 ∧ T (tkB T n e + 4) = 110) ↔ (rtk T n e = 1 ∧ rwd T n e = 499968340590) := by
  constructor
  · rintro ⟨h, hl, h0, h1, h2, h3, h4⟩
    refine ⟨rtk_1 h, ?_⟩
    unfold rwd
    rw [if_pos h, hl, rwf5]
    omega
  · rintro ⟨h, hw⟩
    have h := rtk1 h
    have q1 : 1 ≤ tkQ T n e - tkB T n e := by
      have z := tkQ_1 (T := T) (n := n) (e := e) (Or.inl h)
      omega
    have hl : ∀ k, 0 ≤ k → k < tkQ T n e - tkB T n e → 97 ≤ T (tkB T n e + k) ∧ T (tkB T n e + k) ≤ 122 := fun k h0 h1 => tk_let (rtk_1 h) h0 h1
    unfold rwd at hw
    rw [if_pos h] at hw
    refine ⟨h, ?_⟩
    generalize tkQ T n e - tkB T n e = m at *
    generalize tkB T n e = b at *
    rcases (show m = 1 ∨ m = 2 ∨ m = 3 ∨ m = 4 ∨ m = 5 ∨ m = 6 ∨ m = 7 ∨ 8 ≤ m by omega) with r | r | r | r | r | r | r | r
    · subst r; rw [rwf1] at hw; have l0 := hl 0 (by omega) (by omega); clear hl; omega
    · subst r; rw [rwf2] at hw; have l0 := hl 0 (by omega) (by omega); have l1 := hl 1 (by omega) (by omega); clear hl; omega
    · subst r; rw [rwf3] at hw; have l0 := hl 0 (by omega) (by omega); have l1 := hl 1 (by omega) (by omega); have l2 := hl 2 (by omega) (by omega); clear hl; omega
    · subst r; rw [rwf4] at hw; have l0 := hl 0 (by omega) (by omega); have l1 := hl 1 (by omega) (by omega); have l2 := hl 2 (by omega) (by omega); have l3 := hl 3 (by omega) (by omega); clear hl; omega
    · subst r; rw [rwf5] at hw; have l0 := hl 0 (by omega) (by omega); have l1 := hl 1 (by omega) (by omega); have l2 := hl 2 (by omega) (by omega); have l3 := hl 3 (by omega) (by omega); have l4 := hl 4 (by omega) (by omega); clear hl; refine ⟨rfl, ?_⟩; omega
    · subst r; rw [rwf6] at hw; have l0 := hl 0 (by omega) (by omega); have l1 := hl 1 (by omega) (by omega); have l2 := hl 2 (by omega) (by omega); have l3 := hl 3 (by omega) (by omega); have l4 := hl 4 (by omega) (by omega); have l5 := hl 5 (by omega) (by omega); clear hl; omega
    · subst r; rw [rwf7] at hw; have l0 := hl 0 (by omega) (by omega); have l1 := hl 1 (by omega) (by omega); have l2 := hl 2 (by omega) (by omega); have l3 := hl 3 (by omega) (by omega); have l4 := hl 4 (by omega) (by omega); have l5 := hl 5 (by omega) (by omega); have l6 := hl 6 (by omega) (by omega); clear hl; omega
    · rw [rwf_hi r] at hw; omega
theorem wd_1 {T : Int → Int} {n e : Int} : (tkK T n e = 1 ∧ tkQ T n e - tkB T n e = 5 ∧ T (tkB T n e + 0) = 104 ∧ T (tkB T n e + 1) = 111 ∧ T (tkB T n e + 2) = 108 ∧ T (tkB T n e + 3) = 108 ∧ T (tkB T n e + 4) = 121) ↔ (rtk T n e = 1 ∧ rwd T n e = 448545975417) := by
  constructor
  · rintro ⟨h, hl, h0, h1, h2, h3, h4⟩
    refine ⟨rtk_1 h, ?_⟩
    unfold rwd
    rw [if_pos h, hl, rwf5]
    omega
  · rintro ⟨h, hw⟩
    have h := rtk1 h
    have q1 : 1 ≤ tkQ T n e - tkB T n e := by
      have z := tkQ_1 (T := T) (n := n) (e := e) (Or.inl h)
      omega
    have hl : ∀ k, 0 ≤ k → k < tkQ T n e - tkB T n e → 97 ≤ T (tkB T n e + k) ∧ T (tkB T n e + k) ≤ 122 := fun k h0 h1 => tk_let (rtk_1 h) h0 h1
    unfold rwd at hw
    rw [if_pos h] at hw
    refine ⟨h, ?_⟩
    generalize tkQ T n e - tkB T n e = m at *
    generalize tkB T n e = b at *
    rcases (show m = 1 ∨ m = 2 ∨ m = 3 ∨ m = 4 ∨ m = 5 ∨ m = 6 ∨ m = 7 ∨ 8 ≤ m by omega) with r | r | r | r | r | r | r | r
    · subst r; rw [rwf1] at hw; have l0 := hl 0 (by omega) (by omega); clear hl; omega
    · subst r; rw [rwf2] at hw; have l0 := hl 0 (by omega) (by omega); have l1 := hl 1 (by omega) (by omega); clear hl; omega
    · subst r; rw [rwf3] at hw; have l0 := hl 0 (by omega) (by omega); have l1 := hl 1 (by omega) (by omega); have l2 := hl 2 (by omega) (by omega); clear hl; omega
    · subst r; rw [rwf4] at hw; have l0 := hl 0 (by omega) (by omega); have l1 := hl 1 (by omega) (by omega); have l2 := hl 2 (by omega) (by omega); have l3 := hl 3 (by omega) (by omega); clear hl; omega
    · subst r; rw [rwf5] at hw; have l0 := hl 0 (by omega) (by omega); have l1 := hl 1 (by omega) (by omega); have l2 := hl 2 (by omega) (by omega); have l3 := hl 3 (by omega) (by omega); have l4 := hl 4 (by omega) (by omega); clear hl; refine ⟨rfl, ?_⟩; omega
    · subst r; rw [rwf6] at hw; have l0 := hl 0 (by omega) (by omega); have l1 := hl 1 (by omega) (by omega); have l2 := hl 2 (by omega) (by omega); have l3 := hl 3 (by omega) (by omega); have l4 := hl 4 (by omega) (by omega); have l5 := hl 5 (by omega) (by omega); clear hl; omega
    · subst r; rw [rwf7] at hw; have l0 := hl 0 (by omega) (by omega); have l1 := hl 1 (by omega) (by omega); have l2 := hl 2 (by omega) (by omega); have l3 := hl 3 (by omega) (by omega); have l4 := hl 4 (by omega) (by omega); have l5 := hl 5 (by omega) (by omega); have l6 := hl 6 (by omega) (by omega); clear hl; omega
    · rw [rwf_hi r] at hw; omega
theorem wd_2 {T : Int → Int} {n e : Int} : (tkK T n e = 1 ∧ tkQ T n e - tkB T n e = 7 ∧ T (tkB T n e + 0) = 98 ∧ T (tkB T n e + 1) = 114 ∧ T (tkB T n e + 2) = 97 ∧ T (tkB T n e + 3) = 109 ∧ T (tkB T n e + 4) = 98 ∧ T (tkB T n e + 5) = 108 ∧ T (tkB T n e + 6) = 101) ↔ (rtk T n e = 1 ∧ rwd T n e = 27710310490205285) := by
  constructor
  · rintro ⟨h, hl, h0, h1, h2, h3, h4, h5, h6⟩
    refine ⟨rtk_1 h, ?_⟩
    unfold rwd
    rw [if_pos h, hl, rwf7]
    omega
  · rintro ⟨h, hw⟩
    have h := rtk1 h
    have q1 : 1 ≤ tkQ T n e - tkB T n e := by
      have z := tkQ_1 (T := T) (n := n) (e := e) (Or.inl h)
      omega
    have hl : ∀ k, 0 ≤ k → k < tkQ T n e - tkB T n e → 97 ≤ T (tkB T n e + k) ∧ T (tkB T n e + k) ≤ 122 := fun k h0 h1 => tk_let (rtk_1 h) h0 h1
    unfold rwd at hw
    rw [if_pos h] at hw
    refine ⟨h, ?_⟩
    generalize tkQ T n e - tkB T n e = m at *
    generalize tkB T n e = b at *
    rcases (show m = 1 ∨ m = 2 ∨ m = 3 ∨ m = 4 ∨ m = 5 ∨ m = 6 ∨ m = 7 ∨ 8 ≤ m by omega) with r | r | r | r | r | r | r | r
    · subst r; rw [rwf1] at hw; have l0 := hl 0 (by omega) (by omega); clear hl; omega
    · subst r; rw [rwf2] at hw; have l0 := hl 0 (by omega) (by omega); have l1 := hl 1 (by omega) (by omega); clear hl; omega
    · subst r; rw [rwf3] at hw; have l0 := hl 0 (by omega) (by omega); have l1 := hl 1 (by omega) (by omega); have l2 := hl 2 (by omega) (by omega); clear hl; omega
    · subst r; rw [rwf4] at hw; have l0 := hl 0 (by omega) (by omega); have l1 := hl 1 (by omega) (by omega); have l2 := hl 2 (by omega) (by omega); have l3 := hl 3 (by omega) (by omega); clear hl; omega
    · subst r; rw [rwf5] at hw; have l0 := hl 0 (by omega) (by omega); have l1 := hl 1 (by omega) (by omega); have l2 := hl 2 (by omega) (by omega); have l3 := hl 3 (by omega) (by omega); have l4 := hl 4 (by omega) (by omega); clear hl; omega
    · subst r; rw [rwf6] at hw; have l0 := hl 0 (by omega) (by omega); have l1 := hl 1 (by omega) (by omega); have l2 := hl 2 (by omega) (by omega); have l3 := hl 3 (by omega) (by omega); have l4 := hl 4 (by omega) (by omega); have l5 := hl 5 (by omega) (by omega); clear hl; omega
    · subst r; rw [rwf7] at hw; have l0 := hl 0 (by omega) (by omega); have l1 := hl 1 (by omega) (by omega); have l2 := hl 2 (by omega) (by omega); have l3 := hl 3 (by omega) (by omega); have l4 := hl 4 (by omega) (by omega); have l5 := hl 5 (by omega) (by omega); have l6 := hl 6 (by omega) (by omega); clear hl; refine ⟨rfl, ?_⟩; omega
    · rw [rwf_hi r] at hw; omega
theorem wd_3 {T : Int → Int} {n e : Int} : (tkK T n e = 1 ∧ tkQ T n e - tkB T n e = 5 ∧ T (tkB T n e + 0) = 104 ∧ T (tkB T n e + 1) = 97 ∧ T (tkB T n e + 2) = 122 ∧ T (tkB T n e + 3) = 101 ∧ T (tkB T n e + 4) = 108) ↔ (rtk T n e = 1 ∧ rwd T n e = 448312010092) := by
  constructor
  · rintro ⟨h, hl, h0, h1, h2, h3, h4⟩
    refine ⟨rtk_1 h, ?_⟩
    unfold rwd
    rw [if_pos h, hl, rwf5]
    omega
  · rintro ⟨h, hw⟩
    have h := rtk1 h
    have q1 : 1 ≤ tkQ T n e - tkB T n e := by
      have z := tkQ_1 (T := T) (n := n) (e := e) (Or.inl h)
      omega
    have hl : ∀ k, 0 ≤ k → k < tkQ T n e - tkB T n e → 97 ≤ T (tkB T n e + k) ∧ T (tkB T n e + k) ≤ 122 := fun k h0 h1 => tk_let (rtk_1 h) h0 h1
    unfold rwd at hw
    rw [if_pos h] at hw
    refine ⟨h, ?_⟩
    generalize tkQ T n e - tkB T n e = m at *
    generalize tkB T n e = b at *
    rcases (show m = 1 ∨ m = 2 ∨ m = 3 ∨ m = 4 ∨ m = 5 ∨ m = 6 ∨ m = 7 ∨ 8 ≤ m by omega) with r | r | r | r | r | r | r | r
    · subst r; rw [rwf1] at hw; have l0 := hl 0 (by omega) (by omega); clear hl; omega
    · subst r; rw [rwf2] at hw; have l0 := hl 0 (by omega) (by omega); have l1 := hl 1 (by omega) (by omega); clear hl; omega
    · subst r; rw [rwf3] at hw; have l0 := hl 0 (by omega) (by omega); have l1 := hl 1 (by omega) (by omega); have l2 := hl 2 (by omega) (by omega); clear hl; omega
    · subst r; rw [rwf4] at hw; have l0 := hl 0 (by omega) (by omega); have l1 := hl 1 (by omega) (by omega); have l2 := hl 2 (by omega) (by omega); have l3 := hl 3 (by omega) (by omega); clear hl; omega
    · subst r; rw [rwf5] at hw; have l0 := hl 0 (by omega) (by omega); have l1 := hl 1 (by omega) (by omega); have l2 := hl 2 (by omega) (by omega); have l3 := hl 3 (by omega) (by omega); have l4 := hl 4 (by omega) (by omega); clear hl; refine ⟨rfl, ?_⟩; omega
    · subst r; rw [rwf6] at hw; have l0 := hl 0 (by omega) (by omega); have l1 := hl 1 (by omega) (by omega); have l2 := hl 2 (by omega) (by omega); have l3 := hl 3 (by omega) (by omega); have l4 := hl 4 (by omega) (by omega); have l5 := hl 5 (by omega) (by omega); clear hl; omega
    · subst r; rw [rwf7] at hw; have l0 := hl 0 (by omega) (by omega); have l1 := hl 1 (by omega) (by omega); have l2 := hl 2 (by omega) (by omega); have l3 := hl 3 (by omega) (by omega); have l4 := hl 4 (by omega) (by omega); have l5 := hl 5 (by omega) (by omega); have l6 := hl 6 (by omega) (by omega); clear hl; omega
    · rw [rwf_hi r] at hw; omega
theorem wd_4 {T : Int → Int} {n e : Int} : (tkK T n e = 1 ∧ tkQ T n e - tkB T n e = 6 ∧ T (tkB T n e + 0) = 112 ∧ T (tkB T n e + 1) = 97 ∧ T (tkB T n e + 2) = 114 ∧ T (tkB T n e + 3) = 105 ∧ T (tkB T n e + 4) = 115 ∧ T (tkB T n e + 5) = 104) ↔ (rtk T n e = 1 ∧ rwd T n e = 123563833652072) := by
  constructor
  · rintro ⟨h, hl, h0, h1, h2, h3, h4, h5⟩
    refine ⟨rtk_1 h, ?_⟩
    unfold rwd
    rw [if_pos h, hl, rwf6]
    omega
  · rintro ⟨h, hw⟩
    have h := rtk1 h
    have q1 : 1 ≤ tkQ T n e - tkB T n e := by
      have z := tkQ_1 (T := T) (n := n) (e := e) (Or.inl h)
      omega
    have hl : ∀ k, 0 ≤ k → k < tkQ T n e - tkB T n e → 97 ≤ T (tkB T n e + k) ∧ T (tkB T n e + k) ≤ 122 := fun k h0 h1 => tk_let (rtk_1 h) h0 h1
    unfold rwd at hw
    rw [if_pos h] at hw
    refine ⟨h, ?_⟩
    generalize tkQ T n e - tkB T n e = m at *
    generalize tkB T n e = b at *
    rcases (show m = 1 ∨ m = 2 ∨ m = 3 ∨ m = 4 ∨ m = 5 ∨ m = 6 ∨ m = 7 ∨ 8 ≤ m by omega) with r | r | r | r | r | r | r | r
    · subst r; rw [rwf1] at hw; have l0 := hl 0 (by omega) (by omega); clear hl; omega
    · subst r; rw [rwf2] at hw; have l0 := hl 0 (by omega) (by omega); have l1 := hl 1 (by omega) (by omega); clear hl; omega
    · subst r; rw [rwf3] at hw; have l0 := hl 0 (by omega) (by omega); have l1 := hl 1 (by omega) (by omega); have l2 := hl 2 (by omega) (by omega); clear hl; omega
    · subst r; rw [rwf4] at hw; have l0 := hl 0 (by omega) (by omega); have l1 := hl 1 (by omega) (by omega); have l2 := hl 2 (by omega) (by omega); have l3 := hl 3 (by omega) (by omega); clear hl; omega
    · subst r; rw [rwf5] at hw; have l0 := hl 0 (by omega) (by omega); have l1 := hl 1 (by omega) (by omega); have l2 := hl 2 (by omega) (by omega); have l3 := hl 3 (by omega) (by omega); have l4 := hl 4 (by omega) (by omega); clear hl; omega
    · subst r; rw [rwf6] at hw; have l0 := hl 0 (by omega) (by omega); have l1 := hl 1 (by omega) (by omega); have l2 := hl 2 (by omega) (by omega); have l3 := hl 3 (by omega) (by omega); have l4 := hl 4 (by omega) (by omega); have l5 := hl 5 (by omega) (by omega); clear hl; refine ⟨rfl, ?_⟩; omega
    · subst r; rw [rwf7] at hw; have l0 := hl 0 (by omega) (by omega); have l1 := hl 1 (by omega) (by omega); have l2 := hl 2 (by omega) (by omega); have l3 := hl 3 (by omega) (by omega); have l4 := hl 4 (by omega) (by omega); have l5 := hl 5 (by omega) (by omega); have l6 := hl 6 (by omega) (by omega); clear hl; omega
    · rw [rwf_hi r] at hw; omega
theorem wd_5 {T : Int → Int} {n e : Int} : (tkK T n e = 1 ∧ tkQ T n e - tkB T n e = 4 ∧ T (tkB T n e + 0) = 103 ∧ T (tkB T n e + 1) = 97 ∧ T (tkB T n e + 2) = 116 ∧ T (tkB T n e + 3) = 101) ↔ (rtk T n e = 1 ∧ rwd T n e = 1734440037) := by
  constructor
  · rintro ⟨h, hl, h0, h1, h2, h3⟩
    refine ⟨rtk_1 h, ?_⟩
    unfold rwd
    rw [if_pos h, hl, rwf4]
    omega
  · rintro ⟨h, hw⟩
    have h := rtk1 h
    have q1 : 1 ≤ tkQ T n e - tkB T n e := by
      have z := tkQ_1 (T := T) (n := n) (e := e) (Or.inl h)
      omega
    have hl : ∀ k, 0 ≤ k → k < tkQ T n e - tkB T n e → 97 ≤ T (tkB T n e + k) ∧ T (tkB T n e + k) ≤ 122 := fun k h0 h1 => tk_let (rtk_1 h) h0 h1
    unfold rwd at hw
    rw [if_pos h] at hw
    refine ⟨h, ?_⟩
    generalize tkQ T n e - tkB T n e = m at *
    generalize tkB T n e = b at *
    rcases (show m = 1 ∨ m = 2 ∨ m = 3 ∨ m = 4 ∨ m = 5 ∨ m = 6 ∨ m = 7 ∨ 8 ≤ m by omega) with r | r | r | r | r | r | r | r
    · subst r; rw [rwf1] at hw; have l0 := hl 0 (by omega) (by omega); clear hl; omega
    · subst r; rw [rwf2] at hw; have l0 := hl 0 (by omega) (by omega); have l1 := hl 1 (by omega) (by omega); clear hl; omega
    · subst r; rw [rwf3] at hw; have l0 := hl 0 (by omega) (by omega); have l1 := hl 1 (by omega) (by omega); have l2 := hl 2 (by omega) (by omega); clear hl; omega
    · subst r; rw [rwf4] at hw; have l0 := hl 0 (by omega) (by omega); have l1 := hl 1 (by omega) (by omega); have l2 := hl 2 (by omega) (by omega); have l3 := hl 3 (by omega) (by omega); clear hl; refine ⟨rfl, ?_⟩; omega
    · subst r; rw [rwf5] at hw; have l0 := hl 0 (by omega) (by omega); have l1 := hl 1 (by omega) (by omega); have l2 := hl 2 (by omega) (by omega); have l3 := hl 3 (by omega) (by omega); have l4 := hl 4 (by omega) (by omega); clear hl; omega
    · subst r; rw [rwf6] at hw; have l0 := hl 0 (by omega) (by omega); have l1 := hl 1 (by omega) (by omega); have l2 := hl 2 (by omega) (by omega); have l3 := hl 3 (by omega) (by omega); have l4 := hl 4 (by omega) (by omega); have l5 := hl 5 (by omega) (by omega); clear hl; omega
    · subst r; rw [rwf7] at hw; have l0 := hl 0 (by omega) (by omega); have l1 := hl 1 (by omega) (by omega); have l2 := hl 2 (by omega) (by omega); have l3 := hl 3 (by omega) (by omega); have l4 := hl 4 (by omega) (by omega); have l5 := hl 5 (by omega) (by omega); have l6 := hl 6 (by omega) (by omega); clear hl; omega
    · rw [rwf_hi r] at hw; omega
theorem wd_6 {T : Int → Int} {n e : Int} : (tkK T n e = 1 ∧ tkQ T n e - tkB T n e = 4 ∧ T (tkB T n e + 0) = 119 ∧ T (tkB T n e + 1) = 111 ∧ T (tkB T n e + 2) = 114 ∧ T (tkB T n e + 3) = 100) ↔ (rtk T n e = 1 ∧ rwd T n e = 2003792484) := by
  constructor
  · rintro ⟨h, hl, h0, h1, h2, h3⟩
    refine ⟨rtk_1 h, ?_⟩
    unfold rwd
    rw [if_pos h, hl, rwf4]
    omega
  · rintro ⟨h, hw⟩
    have h := rtk1 h
    have q1 : 1 ≤ tkQ T n e - tkB T n e := by
      have z := tkQ_1 (T := T) (n := n) (e := e) (Or.inl h)
      omega
    have hl : ∀ k, 0 ≤ k → k < tkQ T n e - tkB T n e → 97 ≤ T (tkB T n e + k) ∧ T (tkB T n e + k) ≤ 122 := fun k h0 h1 => tk_let (rtk_1 h) h0 h1
    unfold rwd at hw
    rw [if_pos h] at hw
    refine ⟨h, ?_⟩
    generalize tkQ T n e - tkB T n e = m at *
    generalize tkB T n e = b at *
    rcases (show m = 1 ∨ m = 2 ∨ m = 3 ∨ m = 4 ∨ m = 5 ∨ m = 6 ∨ m = 7 ∨ 8 ≤ m by omega) with r | r | r | r | r | r | r | r
    · subst r; rw [rwf1] at hw; have l0 := hl 0 (by omega) (by omega); clear hl; omega
    · subst r; rw [rwf2] at hw; have l0 := hl 0 (by omega) (by omega); have l1 := hl 1 (by omega) (by omega); clear hl; omega
    · subst r; rw [rwf3] at hw; have l0 := hl 0 (by omega) (by omega); have l1 := hl 1 (by omega) (by omega); have l2 := hl 2 (by omega) (by omega); clear hl; omega
    · subst r; rw [rwf4] at hw; have l0 := hl 0 (by omega) (by omega); have l1 := hl 1 (by omega) (by omega); have l2 := hl 2 (by omega) (by omega); have l3 := hl 3 (by omega) (by omega); clear hl; refine ⟨rfl, ?_⟩; omega
    · subst r; rw [rwf5] at hw; have l0 := hl 0 (by omega) (by omega); have l1 := hl 1 (by omega) (by omega); have l2 := hl 2 (by omega) (by omega); have l3 := hl 3 (by omega) (by omega); have l4 := hl 4 (by omega) (by omega); clear hl; omega
    · subst r; rw [rwf6] at hw; have l0 := hl 0 (by omega) (by omega); have l1 := hl 1 (by omega) (by omega); have l2 := hl 2 (by omega) (by omega); have l3 := hl 3 (by omega) (by omega); have l4 := hl 4 (by omega) (by omega); have l5 := hl 5 (by omega) (by omega); clear hl; omega
    · subst r; rw [rwf7] at hw; have l0 := hl 0 (by omega) (by omega); have l1 := hl 1 (by omega) (by omega); have l2 := hl 2 (by omega) (by omega); have l3 := hl 3 (by omega) (by omega); have l4 := hl 4 (by omega) (by omega); have l5 := hl 5 (by omega) (by omega); have l6 := hl 6 (by omega) (by omega); clear hl; omega
    · rw [rwf_hi r] at hw; omega
theorem wd_7 {T : Int → Int} {n e : Int} : (tkK T n e = 1 ∧ tkQ T n e - tkB T n e = 4 ∧ T (tkB T n e + 0) = 100 ∧ T (tkB T n e + 1) = 97 ∧ T (tkB T n e + 2) = 114 ∧ T (tkB T n e + 3) = 107) ↔ (rtk T n e = 1 ∧ rwd T n e = 1684107883) := by
  constructor
  · rintro ⟨h, hl, h0, h1, h2, h3⟩
    refine ⟨rtk_1 h, ?_⟩
    unfold rwd
    rw [if_pos h, hl, rwf4]
    omega
  · rintro ⟨h, hw⟩
    have h := rtk1 h
    have q1 : 1 ≤ tkQ T n e - tkB T n e := by
      have z := tkQ_1 (T := T) (n := n) (e := e) (Or.inl h)
      omega
    have hl : ∀ k, 0 ≤ k → k < tkQ T n e - tkB T n e → 97 ≤ T (tkB T n e + k) ∧ T (tkB T n e + k) ≤ 122 := fun k h0 h1 => tk_let (rtk_1 h) h0 h1
    unfold rwd at hw
    rw [if_pos h] at hw
    refine ⟨h, ?_⟩
    generalize tkQ T n e - tkB T n e = m at *
    generalize tkB T n e = b at *
    rcases (show m = 1 ∨ m = 2 ∨ m = 3 ∨ m = 4 ∨ m = 5 ∨ m = 6 ∨ m = 7 ∨ 8 ≤ m by omega) with r | r | r | r | r | r | r | r
    · subst r; rw [rwf1] at hw; have l0 := hl 0 (by omega) (by omega); clear hl; omega
    · subst r; rw [rwf2] at hw; have l0 := hl 0 (by omega) (by omega); have l1 := hl 1 (by omega) (by omega); clear hl; omega
    · subst r; rw [rwf3] at hw; have l0 := hl 0 (by omega) (by omega); have l1 := hl 1 (by omega) (by omega); have l2 := hl 2 (by omega) (by omega); clear hl; omega
    · subst r; rw [rwf4] at hw; have l0 := hl 0 (by omega) (by omega); have l1 := hl 1 (by omega) (by omega); have l2 := hl 2 (by omega) (by omega); have l3 := hl 3 (by omega) (by omega); clear hl; refine ⟨rfl, ?_⟩; omega
    · subst r; rw [rwf5] at hw; have l0 := hl 0 (by omega) (by omega); have l1 := hl 1 (by omega) (by omega); have l2 := hl 2 (by omega) (by omega); have l3 := hl 3 (by omega) (by omega); have l4 := hl 4 (by omega) (by omega); clear hl; omega
    · subst r; rw [rwf6] at hw; have l0 := hl 0 (by omega) (by omega); have l1 := hl 1 (by omega) (by omega); have l2 := hl 2 (by omega) (by omega); have l3 := hl 3 (by omega) (by omega); have l4 := hl 4 (by omega) (by omega); have l5 := hl 5 (by omega) (by omega); clear hl; omega
    · subst r; rw [rwf7] at hw; have l0 := hl 0 (by omega) (by omega); have l1 := hl 1 (by omega) (by omega); have l2 := hl 2 (by omega) (by omega); have l3 := hl 3 (by omega) (by omega); have l4 := hl 4 (by omega) (by omega); have l5 := hl 5 (by omega) (by omega); have l6 := hl 6 (by omega) (by omega); clear hl; omega
    · rw [rwf_hi r] at hw; omega
theorem csT_u {T : Int → Int} {n e : Int} : csT T n e = if tkK T n e = 1 ∧ tkQ T n e - tkB T n e = 5 ∧ T (tkB T n e + 0) = 116 ∧ T (tkB T n e + 1) = 104 ∧ T (tkB T n e + 2) = 111 ∧ T (tkB T n e + 3) = 114 ∧ T (tkB T n e + 4) = 110 then 0 else if tkK T n e = 1 ∧ tkQ T n e - tkB T n e = 5 ∧ T (tkB T n e + 0) = 104 ∧ T (tkB T n e + 1) = 111 ∧ T (tkB T n e + 2) = 108 ∧ T (tkB T n e + 3) = 108 ∧ T (tkB T n e + 4) = 121 then 1 else if tkK T n e = 1 ∧ tkQ T n e - tkB T n e = 7 ∧ T (tkB T n e + 0) = 98 ∧ T (tkB T n e + 1) = 114 ∧ T (tkB T n e + 2) = 97 ∧ T (tkB T n e + 3) = 109 ∧ T (tkB T n e + 4) = 98 ∧ T (tkB T n e + 5) = 108 ∧ T (tkB T n e + 6) = 101 then 2 else if tkK T n e = 1 ∧ tkQ T n e - tkB T n e = 5 ∧ T (tkB T n e + 0) = 104 ∧ T (tkB T n e + 1) = 97 ∧ T (tkB T n e + 2) = 122 ∧ T (tkB T n e + 3) = 101 ∧ T (tkB T n e + 4) = 108 then 3 else if tkK T n e = 1 ∧ tkQ T n e - tkB T n e = 6 ∧ T (tkB T n e + 0) = 112 ∧ T (tkB T n e + 1) = 97 ∧ T (tkB T n e + 2) = 114 ∧ T (tkB T n e + 3) = 105 ∧ T (tkB T n e + 4) = 115 ∧ T (tkB T n e + 5) = 104 then 4 else if tkK T n e = 1 ∧ tkQ T n e - tkB T n e = 4 ∧ T (tkB T n e + 0) = 103 ∧ T (tkB T n e + 1) = 97 ∧ T (tkB T n e + 2) = 116 ∧ T (tkB T n e + 3) = 101 then 5 else if tkK T n e = 1 ∧ tkQ T n e - tkB T n e = 4 ∧ T (tkB T n e + 0) = 119 ∧ T (tkB T n e + 1) = 111 ∧ T (tkB T n e + 2) = 114 ∧ T (tkB T n e + 3) = 100 then 6 else if tkK T n e = 1 ∧ tkQ T n e - tkB T n e = 4 ∧ T (tkB T n e + 0) = 100 ∧ T (tkB T n e + 1) = 97 ∧ T (tkB T n e + 2) = 114 ∧ T (tkB T n e + 3) = 107 then 7 else -1 := rfl
theorem cs_r {T : Int → Int} {n e : Int} : csT T n e = if rtk T n e = 1 then if rwd T n e = 499968340590 then 0 else if rwd T n e = 448545975417 then 1 else if rwd T n e = 27710310490205285 then 2 else if rwd T n e = 448312010092 then 3 else if rwd T n e = 123563833652072 then 4 else if rwd T n e = 1734440037 then 5 else if rwd T n e = 2003792484 then 6 else if rwd T n e = 1684107883 then 7 else -1 else -1 := by
  rw [csT_u]
  by_cases h : rtk T n e = 1
  · rw [if_pos h]
    by_cases c0 : rwd T n e = 499968340590
    · rw [if_pos c0, if_pos (wd_0.mpr ⟨h, c0⟩)]
    rw [if_neg c0, if_neg (fun z => c0 (wd_0.mp z).2)]
    by_cases c1 : rwd T n e = 448545975417
    · rw [if_pos c1, if_pos (wd_1.mpr ⟨h, c1⟩)]
    rw [if_neg c1, if_neg (fun z => c1 (wd_1.mp z).2)]
    by_cases c2 : rwd T n e = 27710310490205285
    · rw [if_pos c2, if_pos (wd_2.mpr ⟨h, c2⟩)]
    rw [if_neg c2, if_neg (fun z => c2 (wd_2.mp z).2)]
    by_cases c3 : rwd T n e = 448312010092
    · rw [if_pos c3, if_pos (wd_3.mpr ⟨h, c3⟩)]
    rw [if_neg c3, if_neg (fun z => c3 (wd_3.mp z).2)]
    by_cases c4 : rwd T n e = 123563833652072
    · rw [if_pos c4, if_pos (wd_4.mpr ⟨h, c4⟩)]
    rw [if_neg c4, if_neg (fun z => c4 (wd_4.mp z).2)]
    by_cases c5 : rwd T n e = 1734440037
    · rw [if_pos c5, if_pos (wd_5.mpr ⟨h, c5⟩)]
    rw [if_neg c5, if_neg (fun z => c5 (wd_5.mp z).2)]
    by_cases c6 : rwd T n e = 2003792484
    · rw [if_pos c6, if_pos (wd_6.mpr ⟨h, c6⟩)]
    rw [if_neg c6, if_neg (fun z => c6 (wd_6.mp z).2)]
    by_cases c7 : rwd T n e = 1684107883
    · rw [if_pos c7, if_pos (wd_7.mpr ⟨h, c7⟩)]
    rw [if_neg c7, if_neg (fun z => c7 (wd_7.mp z).2)]
  · rw [if_neg h]
    rw [if_neg (fun z => h (wd_0.mp z).1)]
    rw [if_neg (fun z => h (wd_1.mp z).1)]
    rw [if_neg (fun z => h (wd_2.mp z).1)]
    rw [if_neg (fun z => h (wd_3.mp z).1)]
    rw [if_neg (fun z => h (wd_4.mp z).1)]
    rw [if_neg (fun z => h (wd_5.mp z).1)]
    rw [if_neg (fun z => h (wd_6.mp z).1)]
    rw [if_neg (fun z => h (wd_7.mp z).1)]
theorem vl2_rvf {T : Int → Int} {b m : Int} (h : m ≤ 2) : vl2 T b m = rvf T b m := by
  unfold vl2 rvf
  rcases (show m.toNat = 0 ∨ m.toNat = 1 ∨ m.toNat = 2 by omega) with e | e | e <;> rw [e] <;> rfl
theorem V1_e {T : Int → Int} {n e : Int} : V1 T n e = if rtk T n e = 2 then rvl T n e else -1 := by
  have q := tkK_r T n e
  unfold V1 rtk rvl
  by_cases h : tkK T n e = 2
  · rw [if_pos h, if_pos h, if_pos h]
    by_cases h2 : 2 < tkQ T n e - tkB T n e
    · rw [if_pos h2, if_pos h2, if_neg (by omega)]
    · rw [if_neg h2, if_neg h2, if_pos rfl, vl2_rvf (by omega)]
  · rw [if_neg h, if_neg h]
    by_cases h3 : tkK T n e = 3
    · rw [if_pos h3, if_neg]
      split <;> omega
    · rw [if_neg h3, if_neg h]
theorem nu_c {T : Int → Int} {n e lo hi : Int} : (rnu T n e lo hi = 0 ∧ ¬ (V1 T n e ≠ -1 ∧ lo ≤ V1 T n e ∧ V1 T n e ≤ hi)) ∨ (rnu T n e lo hi = 1 ∧ V1 T n e = rvl T n e ∧ V1 T n e ≠ -1 ∧ lo ≤ V1 T n e ∧ V1 T n e ≤ hi) := by
  have q := rvl_b (T := T) n e
  rw [V1_e]
  unfold rnu
  by_cases h : rtk T n e = 2
  · rw [if_pos h, if_pos h]
    by_cases h2 : lo ≤ rvl T n e ∧ rvl T n e ≤ hi
    · rw [if_pos h2]; exact Or.inr ⟨rfl, rfl, by omega, h2.1, h2.2⟩
    · rw [if_neg h2]; exact Or.inl ⟨rfl, fun z => h2 ⟨z.2.1, z.2.2⟩⟩
  · rw [if_neg h, if_neg h]; exact Or.inl ⟨rfl, fun z => z.1 rfl⟩
theorem pnm_c (T : Int → Int) (n k e lo hi f g w : Int) (R : Int → Int) : (rnu T n e lo hi = 0 ∧ pnm T n k e R lo hi f g w = (0, e, R, f, g, w)) ∨ (rnu T n e lo hi = 1 ∧ pnm T n k e R lo hi f g w = (1, tkQ T n e, ur R k (rvl T n e), f, g, w) ∧ V1 T n e = rvl T n e ∧ lo ≤ rvl T n e ∧ rvl T n e ≤ hi) := by
  rcases nu_c (T := T) (n := n) (e := e) (lo := lo) (hi := hi) with ⟨h1, h2⟩ | ⟨h1, h2, h3, h4, h5⟩
  · refine Or.inl ⟨h1, ?_⟩
    by_cases z : (pnm T n k e R lo hi f g w).1 = 0
    · exact (pnm_0 z).1
    · exact absurd (pnm_1 z).2 h2
  · refine Or.inr ⟨h1, ?_, h2, by omega, by omega⟩
    by_cases z : (pnm T n k e R lo hi f g w).1 = 0
    · exact absurd ⟨h3, h4, h5⟩ (pnm_0 z).2
    · rw [← h2]; exact (pnm_1 z).1
theorem pln_c (T : Int → Int) (n e f g w : Int) (R : Int → Int) : (rlo T n e = 0 ∧ pln T n e R f g w = (0, e, R, f, g, w)) ∨ (rlo T n e = 1 ∧ pln T n e R f g w = (1, tkQ T n e, ur (ur R 4 (tkB T n e)) 5 (tkQ T n e - tkB T n e), f, g, w) ∧ rtk T n e = 1 ∧ tkK T n e = 1 ∧ tkQ T n e - tkB T n e ≤ 8) := by
  unfold rlo pln
  by_cases h : tkK T n e = 1
  · rw [if_pos h, if_pos (rtk_1 h)]
    by_cases h2 : 8 < tkQ T n e - tkB T n e
    · rw [if_pos h2, if_pos h2]; exact Or.inl ⟨rfl, rfl⟩
    · rw [if_neg h2, if_neg h2]; exact Or.inr ⟨rfl, rfl, rtk_1 h, h, by omega⟩
  · rw [if_neg h, if_neg (fun z => h (rtk1 z))]; exact Or.inl ⟨rfl, rfl⟩
theorem LN_t {T R : Int → Int} {n e : Int} (hn : n ≤ 200) (h : tkK T n e = 1) (h4 : R 4 = tkB T n e) (h5 : R 5 = tkQ T n e - tkB T n e) : LN T R := by
  have q1 := tkK_n (T := T) (n := n) (e := e) (by omega)
  have q2 := tkQ_b T n e
  refine ⟨by omega, fun p h0 h1 => ?_⟩
  rw [h4]
  exact tk_let (rtk_1 h) h0 (by omega)
/-- what a clause, read, does to the parish -/
def lnM (T R : Int → Int) (x y : Int) (M : Int → Int) : Int → Int := urb (ur M x (R 5)) y (fun k => T (R 4 + k) - 97) (R 5)
def apR (T R M : Int → Int) : Int → Int := if R 0 = 4 then urf M (fun kk => if kk = 186 then 60 else 0) 187 else
  if R 0 = 5 then ur (ur (ur (ur M (86 + M 85) (R 1)) (95 + M 85) (R 2)) (104 + M 85) (R 3)) 85 (M 85 + 1) else
  if R 0 = 6 then ur (lnM T R (114 + M 113) (122 + 8 * M 113) M) 113 (M 113 + 1) else
  if R 0 = 7 then ur M 186 (R 1) else
  ur (lnM T R (22 + M 0) (29 + 8 * M 0) (ur (ur (ur M (1 + M 0) (R 0)) (8 + M 0) (R 1)) (15 + M 0) (R 2))) 0 (M 0 + 1)
abbrev PB (M : Int → Int) : Prop := (0 ≤ M 0 ∧ M 0 ≤ 7) ∧ (0 ≤ M 85 ∧ M 85 ≤ 9) ∧ 0 ≤ M 113 ∧ M 113 ≤ 8
def GE (M : Int → Int) : Prop := ∀ g, 0 ≤ g → g < M 85 → (0 ≤ M (86 + g) ∧ M (86 + g) < M 0) ∧ 0 ≤ M (95 + g) ∧ M (95 + g) < M 0
def LZ (M : Int → Int) : Prop := ∀ f, M 0 ≤ f → f < 7 → M (22 + f) = 0
def CHp (M : Int → Int) : Prop := ∀ f, 0 ≤ f → f < M 0 → 1 ≤ M (15 + f)
def CR (T : Int → Int) (n : Int) (M : Int → Int) (p : PR) (r : PM) : Prop := (p.1 = 0 ∧ r.1 = 0 ∧ p.2.1 = r.2.1) ∨ (p.1 = 1 ∧ r.1 = 1 ∧ p.2.1 = tkQ T n r.2.1 ∧ r.2.2 = apR T p.2.2.1 M ∧ (p.2.2.2.1 = r.2.2 0 ∧ p.2.2.2.2.1 = r.2.2 85 ∧ p.2.2.2.2.2 = r.2.2 113) ∧ WFR T p.2.2.1 ∧ PB r.2.2 ∧ (GE M → GE r.2.2) ∧ (LZ M → LZ r.2.2) ∧ (CHp M → CHp r.2.2))
theorem ur_i {M : Int → Int} {k v : Int} : ur M k v k = v := if_pos rfl
theorem ur_o {M : Int → Int} {k v j : Int} (h : ¬ j = k) : ur M k v j = M j := if_neg h
theorem urb_o {M : Int → Int} {b m j : Int} {g : Int → Int} (h : ¬ (b ≤ j ∧ j < b + m)) : urb M b g m j = M j := if_neg h
section
variable {T M R : Int → Int} {n e : Int}
theorem lnM_o {x y j : Int} (h1 : ¬ j = x) (h2 : ¬ (y ≤ j ∧ j < y + R 5)) : lnM T R x y M j = M j := by
  unfold lnM; rw [urb_o h2, ur_o h1]
/-- what a field's clause leaves as it was -/
theorem ap_f {j : Int} (hR : R 0 ≤ 3) (h5 : R 5 ≤ 8) (h : PB M) (hf : M 0 < 7) (h0 : ¬ j = 0) (h1 : ¬ (j = 1 + M 0 ∨ j = 8 + M 0 ∨ j = 15 + M 0 ∨ j = 22 + M 0)) (h2 : ¬ (29 + 8 * M 0 ≤ j ∧ j < 37 + 8 * M 0)) : apR T R M j = M j := by
  unfold apR
  rw [if_neg (by omega), if_neg (by omega), if_neg (by omega), if_neg (by omega), ur_o h0, lnM_o (by omega) (by omega), ur_o (by omega), ur_o (by omega), ur_o (by omega)]
theorem ap_f0 (hR : R 0 ≤ 3) : apR T R M 0 = M 0 + 1 := by
  unfold apR
  rw [if_neg (by omega), if_neg (by omega), if_neg (by omega), if_neg (by omega), ur_i]
theorem ap_g {j : Int} (hR : R 0 = 5) (h0 : ¬ j = 85) (h1 : ¬ (j = 86 + M 85 ∨ j = 95 + M 85 ∨ j = 104 + M 85)) : apR T R M j = M j := by
  unfold apR
  rw [if_neg (by omega), if_pos hR, ur_o h0, ur_o (by omega), ur_o (by omega), ur_o (by omega)]
theorem ap_g0 (hR : R 0 = 5) : apR T R M 85 = M 85 + 1 := by
  unfold apR
  rw [if_neg (by omega), if_pos hR, ur_i]
theorem ap_w {j : Int} (hR : R 0 = 6) (h5 : R 5 ≤ 8) (h : PB M) (hf : M 113 < 8) (h0 : ¬ j = 113) (h1 : ¬ j = 114 + M 113) (h2 : ¬ (122 + 8 * M 113 ≤ j ∧ j < 130 + 8 * M 113)) : apR T R M j = M j := by
  unfold apR
  rw [if_neg (by omega), if_neg (by omega), if_pos hR, ur_o h0, lnM_o h1 (by omega)]
theorem ap_w0 (hR : R 0 = 6) : apR T R M 113 = M 113 + 1 := by
  unfold apR
  rw [if_neg (by omega), if_neg (by omega), if_pos hR, ur_i]
theorem ap_d {j : Int} (hR : R 0 = 7) (h0 : ¬ j = 186) : apR T R M j = M j := by
  unfold apR
  rw [if_neg (by omega), if_neg (by omega), if_neg (by omega), if_pos hR, ur_o h0]
theorem ap_a {j : Int} (hR : R 0 = 4) (h0 : 0 ≤ j ∧ j < 186) : apR T R M j = 0 := by
  unfold apR urf
  rw [if_pos hR, if_pos (by omega)]
  show (if j = 186 then (60 : Int) else 0) = 0
  rw [if_neg (by omega)]
end
theorem CR_f {T : Int → Int} {n : Int} {M : Int → Int} {p : PR} {r : PM} (h1 : p.1 = 0) (h2 : r.1 = 0) (h3 : p.2.1 = r.2.1) : CR T n M p r := Or.inl ⟨h1, h2, h3⟩
section
variable {T M R : Int → Int} {n e k : Int}
theorem CR_fd (hn : n ≤ 200) (hM : PB M) (hk : 0 ≤ k ∧ k ≤ 3) (hf : M 0 < 7) : CR T n M (if (pnm T n 1 (tkQ T n e) (ur R 0 k) 0 3 (M 0 + 1) (M 85) (M 113)).1 = 0 then (0, (pnm T n 1 (tkQ T n e) (ur R 0 k) 0 3 (M 0 + 1) (M 85) (M 113)).2) else
  if (pnm T n 2 (tkQ T n (tkQ T n e)) (ur (ur R 0 k) 1 (V1 T n (tkQ T n e))) 1 9 (M 0 + 1) (M 85) (M 113)).1 = 0 then (0, (pnm T n 2 (tkQ T n (tkQ T n e)) (ur (ur R 0 k) 1 (V1 T n (tkQ T n e))) 1 9 (M 0 + 1) (M 85) (M 113)).2) else
  if (pln T n (tkQ T n (tkQ T n (tkQ T n e))) (ur (ur (ur R 0 k) 1 (V1 T n (tkQ T n e))) 2 (V1 T n (tkQ T n (tkQ T n e)))) (M 0 + 1) (M 85) (M 113)).1 = 0 then (0, (pln T n (tkQ T n (tkQ T n (tkQ T n e))) (ur (ur (ur R 0 k) 1 (V1 T n (tkQ T n e))) 2 (V1 T n (tkQ T n (tkQ T n e)))) (M 0 + 1) (M 85) (M 113)).2) else
  (1, (pln T n (tkQ T n (tkQ T n (tkQ T n e))) (ur (ur (ur R 0 k) 1 (V1 T n (tkQ T n e))) 2 (V1 T n (tkQ T n (tkQ T n e)))) (M 0 + 1) (M 85) (M 113)).2)) (rfd T n e k M) := by
  unfold rfd
  rw [if_neg (show ¬ M 0 = 7 by omega)]
  rcases pnm_c T n 1 (tkQ T n e) 0 3 (M 0 + 1) (M 85) (M 113) (ur R 0 k) with ⟨h1, h2⟩ | ⟨h1, h2, h3, h4, h5⟩
  · rw [h1, h2]; exact CR_f rfl rfl rfl
  rw [h1, h2, h3, if_neg (show ¬ (1 : Int) = 0 by decide), if_neg (show ¬ (1 : Int) = 0 by decide)]
  rcases pnm_c T n 2 (tkQ T n (tkQ T n e)) 1 9 (M 0 + 1) (M 85) (M 113) (ur (ur R 0 k) 1 (rvl T n (tkQ T n e))) with ⟨g1, g2⟩ | ⟨g1, g2, g3, g4, g5⟩
  · rw [g1, g2]; exact CR_f rfl rfl rfl
  rw [g1, g2, g3, if_neg (show ¬ (1 : Int) = 0 by decide), if_neg (show ¬ (1 : Int) = 0 by decide)]
  rcases pln_c T n (tkQ T n (tkQ T n (tkQ T n e))) (M 0 + 1) (M 85) (M 113) (ur (ur (ur R 0 k) 1 (rvl T n (tkQ T n e))) 2 (rvl T n (tkQ T n (tkQ T n e)))) with ⟨l1, l2⟩ | ⟨l1, l2, l3, l4, l5⟩
  · rw [l1, l2]; exact CR_f rfl rfl rfl
  rw [l1, l2, if_neg (show ¬ (1 : Int) = 0 by decide), if_neg (show ¬ (1 : Int) = 0 by decide)]
  generalize hRR : ur (ur (ur (ur (ur R 0 k) 1 (rvl T n (tkQ T n e))) 2 (rvl T n (tkQ T n (tkQ T n e)))) 4 (tkB T n (tkQ T n (tkQ T n (tkQ T n e))))) 5 (tkQ T n (tkQ T n (tkQ T n (tkQ T n e))) - tkB T n (tkQ T n (tkQ T n (tkQ T n e)))) = RR
  have e0 : RR 0 = k := by rw [← hRR]; rfl
  have e1 : RR 1 = rvl T n (tkQ T n e) := by rw [← hRR]; rfl
  have e2 : RR 2 = rvl T n (tkQ T n (tkQ T n e)) := by rw [← hRR]; rfl
  have e4 : RR 4 = tkB T n (tkQ T n (tkQ T n (tkQ T n e))) := by rw [← hRR]; rfl
  have e5 : RR 5 = tkQ T n (tkQ T n (tkQ T n (tkQ T n e))) - tkB T n (tkQ T n (tkQ T n (tkQ T n e))) := by rw [← hRR]; rfl
  have eM : ur (rlM T n (tkQ T n (tkQ T n (tkQ T n e))) (22 + M 0) (29 + 8 * M 0) (ur (ur (ur M (1 + M 0) k) (8 + M 0) (rvl T n (tkQ T n e))) (15 + M 0) (rvl T n (tkQ T n (tkQ T n e))))) 0 (M 0 + 1) = apR T RR M := by
    unfold apR rlM lnM
    rw [e0, e1, e2, e4, e5, if_neg (by omega), if_neg (by omega), if_neg (by omega), if_neg (by omega)]
  rw [eM]
  have hL := LN_t (R := RR) hn l4 e4 e5
  have a0 : apR T RR M 0 = M 0 + 1 := ap_f0 (by omega)
  have ao : ∀ j, ¬ j = 0 → ¬ (j = 1 + M 0 ∨ j = 8 + M 0 ∨ j = 15 + M 0 ∨ j = 22 + M 0) → ¬ (29 + 8 * M 0 ≤ j ∧ j < 37 + 8 * M 0) → apR T RR M j = M j := fun j => ap_f (by omega) (by omega) hM hf
  have a85 := ao 85 (by omega) (by omega) (by omega)
  have a113 := ao 113 (by omega) (by omega) (by omega)
  refine Or.inr ⟨rfl, rfl, rfl, rfl, ⟨a0.symm, a85.symm, a113.symm⟩, (show WFR T RR from ⟨fun _ => ⟨by omega, hL⟩, fun z => by omega, fun _ => hL⟩), by show PB (apR T RR M); unfold PB; rw [a0, a85, a113]; omega, fun hG g g0 g1 => ?_, fun hZ f f0 f1 => ?_, fun hC f f0 f1 => ?_⟩
  · have g1 : g < apR T RR M 85 := g1
    rw [a85] at g1
    have q := hG g g0 g1
    show (0 ≤ apR T RR M (86 + g) ∧ apR T RR M (86 + g) < apR T RR M 0) ∧ 0 ≤ apR T RR M (95 + g) ∧ apR T RR M (95 + g) < apR T RR M 0
    rw [ao (86 + g) (by omega) (by omega) (by omega), ao (95 + g) (by omega) (by omega) (by omega), a0]
    omega
  · have f0 : apR T RR M 0 ≤ f := f0
    rw [a0] at f0
    show apR T RR M (22 + f) = 0
    rw [ao (22 + f) (by omega) (by omega) (by omega)]
    exact hZ f (by omega) f1
  · have f1 : f < apR T RR M 0 := f1
    rw [a0] at f1
    show 1 ≤ apR T RR M (15 + f)
    by_cases z : f = M 0
    · rw [z]
      have e15 : apR T RR M (15 + M 0) = RR 2 := by
        unfold apR
        rw [if_neg (by omega), if_neg (by omega), if_neg (by omega), if_neg (by omega), ur_o (by omega), lnM_o (by omega) (by omega), ur_i]
      rw [e15]; omega
    · rw [ao (15 + f) (by omega) (by omega) (by omega)]
      exact hC f f0 (by omega)
theorem CR_g (hn : n ≤ 200) (hM : PB M) (hf : M 85 < 9) : CR T n M (pgt T n (tkQ T n e) (ur R 0 5) (M 0) (M 85 + 1) (M 113)) (rga T n e M) := by
  unfold rga pgt
  rw [if_neg (show ¬ M 85 = 9 by omega)]
  rcases pnm_c T n 1 (tkQ T n e) 0 (M 0 - 1) (M 0) (M 85 + 1) (M 113) (ur R 0 5) with ⟨h1, h2⟩ | ⟨h1, h2, h3, h4, h5⟩
  · rw [h1, h2]; exact CR_f rfl rfl rfl
  rw [h1, h2, h3, if_neg (show ¬ (1 : Int) = 0 by decide), if_neg (show ¬ (1 : Int) = 0 by decide)]
  rcases pnm_c T n 2 (tkQ T n (tkQ T n e)) 0 (M 0 - 1) (M 0) (M 85 + 1) (M 113) (ur (ur R 0 5) 1 (rvl T n (tkQ T n e))) with ⟨g1, g2⟩ | ⟨g1, g2, g3, g4, g5⟩
  · rw [g1, g2, if_pos (Or.inl rfl)]
    by_cases z : V1 T n (tkQ T n (tkQ T n e)) = rvl T n (tkQ T n e)
    · rw [if_pos z]; exact CR_f rfl rfl rfl
    · rw [if_neg z]; exact CR_f rfl rfl rfl
  rw [g1, g2, g3]
  by_cases z : rvl T n (tkQ T n (tkQ T n e)) = rvl T n (tkQ T n e)
  · rw [if_pos z, if_pos (Or.inr z)]; exact CR_f rfl rfl rfl
  rw [if_neg z, if_neg (show ¬ ((1 : Int) = 0 ∨ _) from fun q => q.elim (by decide) z), if_neg (show ¬ (1 : Int) = 0 by decide)]
  rcases pnm_c T n 3 (tkQ T n (tkQ T n (tkQ T n e))) 1 30 (M 0) (M 85 + 1) (M 113) (ur (ur (ur R 0 5) 1 (rvl T n (tkQ T n e))) 2 (rvl T n (tkQ T n (tkQ T n e)))) with ⟨l1, l2⟩ | ⟨l1, l2, l3, l4, l5⟩
  · rw [l1, l2]; exact CR_f rfl rfl rfl
  rw [l1, l2, if_neg (show ¬ (1 : Int) = 0 by decide), if_neg (show ¬ (1 : Int) = 0 by decide)]
  generalize hRR : ur (ur (ur (ur R 0 5) 1 (rvl T n (tkQ T n e))) 2 (rvl T n (tkQ T n (tkQ T n e)))) 3 (rvl T n (tkQ T n (tkQ T n (tkQ T n e)))) = RR
  have e0 : RR 0 = 5 := by rw [← hRR]; rfl
  have e1 : RR 1 = rvl T n (tkQ T n e) := by rw [← hRR]; rfl
  have e2 : RR 2 = rvl T n (tkQ T n (tkQ T n e)) := by rw [← hRR]; rfl
  have e3 : RR 3 = rvl T n (tkQ T n (tkQ T n (tkQ T n e))) := by rw [← hRR]; rfl
  have eM : ur (ur (ur (ur M (86 + M 85) (rvl T n (tkQ T n e))) (95 + M 85) (rvl T n (tkQ T n (tkQ T n e)))) (104 + M 85) (rvl T n (tkQ T n (tkQ T n (tkQ T n e))))) 85 (M 85 + 1) = apR T RR M := by
    unfold apR
    rw [e0, e1, e2, e3, if_neg (by decide), if_pos rfl]
  rw [eM]
  have a0 : apR T RR M 85 = M 85 + 1 := ap_g0 e0
  have ao : ∀ j, ¬ j = 85 → ¬ (j = 86 + M 85 ∨ j = 95 + M 85 ∨ j = 104 + M 85) → apR T RR M j = M j := fun j => ap_g e0
  have a86 : apR T RR M (86 + M 85) = RR 1 := by
    unfold apR
    rw [if_neg (by omega), if_pos e0, ur_o (by omega), ur_o (by omega), ur_o (by omega), ur_i]
  have a95 : apR T RR M (95 + M 85) = RR 2 := by
    unfold apR
    rw [if_neg (by omega), if_pos e0, ur_o (by omega), ur_o (by omega), ur_i]
  have z0 := ao 0 (by omega) (by omega)
  have a113 := ao 113 (by omega) (by omega)
  refine Or.inr ⟨rfl, rfl, rfl, rfl, ⟨z0.symm, a0.symm, a113.symm⟩, (show WFR T RR from ⟨fun q => by omega, fun _ => by omega, fun q => by omega⟩), by show PB (apR T RR M); unfold PB; rw [a0, z0, a113]; omega, fun hG g g0 g1 => ?_, fun hZ f f0 f1 => ?_, fun hC f f0 f1 => ?_⟩
  · have g1 : g < apR T RR M 85 := g1
    rw [a0] at g1
    show (0 ≤ apR T RR M (86 + g) ∧ apR T RR M (86 + g) < apR T RR M 0) ∧ 0 ≤ apR T RR M (95 + g) ∧ apR T RR M (95 + g) < apR T RR M 0
    by_cases q : g = M 85
    · rw [q, a86, a95, z0]; omega
    · have q2 := hG g g0 (by omega)
      rw [ao (86 + g) (by omega) (by omega), ao (95 + g) (by omega) (by omega), z0]
      omega
  · have f0 : apR T RR M 0 ≤ f := f0
    rw [z0] at f0
    show apR T RR M (22 + f) = 0
    rw [ao (22 + f) (by omega) (by omega)]
    exact hZ f (by omega) f1
  · have f1 : f < apR T RR M 0 := f1
    rw [z0] at f1
    show 1 ≤ apR T RR M (15 + f)
    rw [ao (15 + f) (by omega) (by omega)]
    exact hC f f0 f1
theorem CR_w (hn : n ≤ 200) (hM : PB M) (hf : M 113 < 8) : CR T n M (pln T n (tkQ T n e) (ur R 0 6) (M 0) (M 85) (M 113 + 1)) (rwo T n e M) := by
  unfold rwo
  rw [if_neg (show ¬ M 113 = 8 by omega)]
  rcases pln_c T n (tkQ T n e) (M 0) (M 85) (M 113 + 1) (ur R 0 6) with ⟨l1, l2⟩ | ⟨l1, l2, l3, l4, l5⟩
  · rw [l1, l2]; exact CR_f rfl rfl rfl
  rw [l1, l2, if_neg (show ¬ (1 : Int) = 0 by decide)]
  generalize hRR : ur (ur (ur R 0 6) 4 (tkB T n (tkQ T n e))) 5 (tkQ T n (tkQ T n e) - tkB T n (tkQ T n e)) = RR
  have e0 : RR 0 = 6 := by rw [← hRR]; rfl
  have e4 : RR 4 = tkB T n (tkQ T n e) := by rw [← hRR]; rfl
  have e5 : RR 5 = tkQ T n (tkQ T n e) - tkB T n (tkQ T n e) := by rw [← hRR]; rfl
  have eM : ur (rlM T n (tkQ T n e) (114 + M 113) (122 + 8 * M 113) M) 113 (M 113 + 1) = apR T RR M := by
    unfold apR rlM lnM
    rw [e0, e4, e5, if_neg (by decide), if_neg (by decide), if_pos rfl]
  rw [eM]
  have hL := LN_t (R := RR) hn l4 e4 e5
  have a0 : apR T RR M 113 = M 113 + 1 := ap_w0 e0
  have ao : ∀ j, ¬ j = 113 → ¬ j = 114 + M 113 → ¬ (122 + 8 * M 113 ≤ j ∧ j < 130 + 8 * M 113) → apR T RR M j = M j := fun j => ap_w e0 (by omega) hM hf
  have z0 := ao 0 (by omega) (by omega) (by omega)
  have a85 := ao 85 (by omega) (by omega) (by omega)
  refine Or.inr ⟨rfl, rfl, rfl, rfl, ⟨z0.symm, a85.symm, a0.symm⟩, (show WFR T RR from ⟨fun q => by omega, fun q => by omega, fun _ => hL⟩), by show PB (apR T RR M); unfold PB; rw [a0, z0, a85]; omega, fun hG g g0 g1 => ?_, fun hZ f f0 f1 => ?_, fun hC f f0 f1 => ?_⟩
  · have g1 : g < apR T RR M 85 := g1
    rw [a85] at g1
    have q := hG g g0 g1
    show (0 ≤ apR T RR M (86 + g) ∧ apR T RR M (86 + g) < apR T RR M 0) ∧ 0 ≤ apR T RR M (95 + g) ∧ apR T RR M (95 + g) < apR T RR M 0
    rw [ao (86 + g) (by omega) (by omega) (by omega), ao (95 + g) (by omega) (by omega) (by omega), z0]
    exact q
  · have f0 : apR T RR M 0 ≤ f := f0
    rw [z0] at f0
    show apR T RR M (22 + f) = 0
    rw [ao (22 + f) (by omega) (by omega) (by omega)]
    exact hZ f (by omega) f1
  · have f1 : f < apR T RR M 0 := f1
    rw [z0] at f1
    show 1 ≤ apR T RR M (15 + f)
    rw [ao (15 + f) (by omega) (by omega) (by omega)]
    exact hC f f0 f1
theorem CR_d (hM : PB M) : CR T n M (pnm T n 1 (tkQ T n e) (ur R 0 7) 10 99 (M 0) (M 85) (M 113)) (rdk T n e M) := by
  unfold rdk
  rcases pnm_c T n 1 (tkQ T n e) 10 99 (M 0) (M 85) (M 113) (ur R 0 7) with ⟨l1, l2⟩ | ⟨l1, l2, l3, l4, l5⟩
  · rw [l1, l2]; exact CR_f rfl rfl rfl
  rw [l1, l2, if_neg (show ¬ (1 : Int) = 0 by decide)]
  generalize hRR : ur (ur R 0 7) 1 (rvl T n (tkQ T n e)) = RR
  have e0 : RR 0 = 7 := by rw [← hRR]; rfl
  have e1 : RR 1 = rvl T n (tkQ T n e) := by rw [← hRR]; rfl
  have eM : ur M 186 (rvl T n (tkQ T n e)) = apR T RR M := by
    unfold apR
    rw [e0, e1, if_neg (by decide), if_neg (by decide), if_neg (by decide), if_pos rfl]
  rw [eM]
  have ao : ∀ j, ¬ j = 186 → apR T RR M j = M j := fun j => ap_d e0
  have z0 := ao 0 (by omega)
  have a85 := ao 85 (by omega)
  have a113 := ao 113 (by omega)
  refine Or.inr ⟨rfl, rfl, rfl, rfl, ⟨z0.symm, a85.symm, a113.symm⟩, (show WFR T RR from ⟨fun q => by omega, fun q => by omega, fun q => by omega⟩), by show PB (apR T RR M); unfold PB; rw [a113, z0, a85]; exact hM, fun hG g g0 g1 => ?_, fun hZ f f0 f1 => ?_, fun hC f f0 f1 => ?_⟩
  · have g1 : g < apR T RR M 85 := g1
    rw [a85] at g1
    have q := hG g g0 g1
    have b := hM.2.1
    show (0 ≤ apR T RR M (86 + g) ∧ apR T RR M (86 + g) < apR T RR M 0) ∧ 0 ≤ apR T RR M (95 + g) ∧ apR T RR M (95 + g) < apR T RR M 0
    rw [ao (86 + g) (by omega), ao (95 + g) (by omega), z0]
    exact q
  · have f0 : apR T RR M 0 ≤ f := f0
    rw [z0] at f0
    show apR T RR M (22 + f) = 0
    rw [ao (22 + f) (by omega)]
    exact hZ f (by omega) f1
  · have f1 : f < apR T RR M 0 := f1
    rw [z0] at f1
    show 1 ≤ apR T RR M (15 + f)
    rw [ao (15 + f) (by omega)]
    exact hC f f0 f1
theorem CR_a : CR T n M (1, tkQ T n e, ur R 0 4, 0, 0, 0) (1, e, urf M (fun kk => if kk = 186 then 60 else 0) 187) := by
  generalize hRR : ur R 0 4 = RR
  have e0 : RR 0 = 4 := by rw [← hRR]; rfl
  have eM : urf M (fun kk => if kk = 186 then 60 else 0) 187 = apR T RR M := by unfold apR; rw [if_pos e0]
  rw [eM]
  have ao : ∀ j, 0 ≤ j ∧ j < 186 → apR T RR M j = 0 := fun j => ap_a e0
  have z0 := ao 0 (by omega)
  have a85 := ao 85 (by omega)
  have a113 := ao 113 (by omega)
  refine Or.inr ⟨rfl, rfl, rfl, rfl, ⟨z0.symm, a85.symm, a113.symm⟩, (show WFR T RR from ⟨fun q => by omega, fun q => by omega, fun q => by omega⟩), by show PB (apR T RR M); unfold PB; rw [a113, z0, a85]; omega, fun hG g g0 g1 => ?_, fun hZ f f0 f1 => ?_, fun hC f f0 f1 => ?_⟩
  · have g1 : g < apR T RR M 85 := g1
    rw [a85] at g1; omega
  · have f0 : apR T RR M 0 ≤ f := f0
    rw [z0] at f0
    exact ao (22 + f) (by omega)
  · have f1 : f < apR T RR M 0 := f1
    rw [z0] at f1
    omega
theorem pcl_rcl (hn : n ≤ 200) (hM : PB M) : CR T n M (pcl T n e R (M 0) (M 85) (M 113)) (rcl T n e M) := by
  have hM' := hM
  obtain ⟨b0, b85, b113⟩ := hM'
  unfold rcl pcl
  by_cases hr : rtk T n e = 1
  · rw [if_pos hr]
    by_cases c4 : rwd T n e = 123563833652072
    · have hc : csT T n e = 4 := by rw [cs_r, if_pos hr, if_neg (by omega), if_neg (by omega), if_neg (by omega), if_neg (by omega), if_pos c4]
      rw [if_pos c4, hc, if_neg (show ¬ (4 : Int) = -1 by decide)]
      rw [if_neg (show ¬ hrT (M 0) (M 85) (M 113) 4 = 0 from fun z => absurd (show (1 : Int) = 0 from z) (by decide)), if_pos rfl]; exact CR_a
    rw [if_neg c4]
    by_cases c5 : rwd T n e = 1734440037
    · have hc : csT T n e = 5 := by rw [cs_r, if_pos hr, if_neg (by omega), if_neg (by omega), if_neg (by omega), if_neg (by omega), if_neg (by omega), if_pos c5]
      rw [if_pos c5, hc, if_neg (show ¬ (5 : Int) = -1 by decide)]
      have eh : hrT (M 0) (M 85) (M 113) 5 = if M 85 < 9 then 1 else 0 := rfl
      by_cases q : M 85 < 9
      · rw [eh, if_pos q, if_neg (show ¬ (1 : Int) = 0 by decide), if_neg (by decide), if_pos rfl]; exact CR_g hn hM q
      · rw [eh, if_neg q, if_pos rfl]; unfold rga; rw [if_pos (by omega)]; exact CR_f rfl rfl rfl
    rw [if_neg c5]
    by_cases c6 : rwd T n e = 2003792484
    · have hc : csT T n e = 6 := by rw [cs_r, if_pos hr, if_neg (by omega), if_neg (by omega), if_neg (by omega), if_neg (by omega), if_neg (by omega), if_neg (by omega), if_pos c6]
      rw [if_pos c6, hc, if_neg (show ¬ (6 : Int) = -1 by decide)]
      have eh : hrT (M 0) (M 85) (M 113) 6 = if M 113 < 8 then 1 else 0 := rfl
      by_cases q : M 113 < 8
      · rw [eh, if_pos q, if_neg (show ¬ (1 : Int) = 0 by decide), if_neg (by decide), if_neg (by decide), if_pos rfl]; exact CR_w hn hM q
      · rw [eh, if_neg q, if_pos rfl]; unfold rwo; rw [if_pos (by omega)]; exact CR_f rfl rfl rfl
    rw [if_neg c6]
    by_cases c7 : rwd T n e = 1684107883
    · have hc : csT T n e = 7 := by rw [cs_r, if_pos hr, if_neg (by omega), if_neg (by omega), if_neg (by omega), if_neg (by omega), if_neg (by omega), if_neg (by omega), if_neg (by omega), if_pos c7]
      rw [if_pos c7, hc, if_neg (show ¬ (7 : Int) = -1 by decide)]
      rw [if_neg (show ¬ hrT (M 0) (M 85) (M 113) 7 = 0 from fun z => absurd (show (1 : Int) = 0 from z) (by decide)), if_neg (by decide), if_neg (by decide), if_neg (by decide), if_pos rfl]; exact CR_d hM
    rw [if_neg c7]
    by_cases c0 : rwd T n e = 499968340590
    · have hc : csT T n e = 0 := by rw [cs_r, if_pos hr, if_pos c0]
      rw [if_pos c0, hc, if_neg (show ¬ (0 : Int) = -1 by decide)]
      have eh : hrT (M 0) (M 85) (M 113) 0 = if M 0 < 7 then 1 else 0 := rfl
      by_cases q : M 0 < 7
      · rw [eh, if_pos q, if_neg (show ¬ (1 : Int) = 0 by decide), if_neg (by decide), if_neg (by decide), if_neg (by decide), if_neg (by decide)]; exact CR_fd hn hM (by omega) q
      · rw [eh, if_neg q, if_pos rfl]; unfold rfd; rw [if_pos (by omega)]; exact CR_f rfl rfl rfl
    rw [if_neg c0]
    by_cases c1 : rwd T n e = 448545975417
    · have hc : csT T n e = 1 := by rw [cs_r, if_pos hr, if_neg (by omega), if_pos c1]
      rw [if_pos c1, hc, if_neg (show ¬ (1 : Int) = -1 by decide)]
      have eh : hrT (M 0) (M 85) (M 113) 1 = if M 0 < 7 then 1 else 0 := rfl
      by_cases q : M 0 < 7
      · rw [eh, if_pos q, if_neg (show ¬ (1 : Int) = 0 by decide), if_neg (by decide), if_neg (by decide), if_neg (by decide), if_neg (by decide)]; exact CR_fd hn hM (by omega) q
      · rw [eh, if_neg q, if_pos rfl]; unfold rfd; rw [if_pos (by omega)]; exact CR_f rfl rfl rfl
    rw [if_neg c1]
    by_cases c2 : rwd T n e = 27710310490205285
    · have hc : csT T n e = 2 := by rw [cs_r, if_pos hr, if_neg (by omega), if_neg (by omega), if_pos c2]
      rw [if_pos c2, hc, if_neg (show ¬ (2 : Int) = -1 by decide)]
      have eh : hrT (M 0) (M 85) (M 113) 2 = if M 0 < 7 then 1 else 0 := rfl
      by_cases q : M 0 < 7
      · rw [eh, if_pos q, if_neg (show ¬ (1 : Int) = 0 by decide), if_neg (by decide), if_neg (by decide), if_neg (by decide), if_neg (by decide)]; exact CR_fd hn hM (by omega) q
      · rw [eh, if_neg q, if_pos rfl]; unfold rfd; rw [if_pos (by omega)]; exact CR_f rfl rfl rfl
    rw [if_neg c2]
    by_cases c3 : rwd T n e = 448312010092
    · have hc : csT T n e = 3 := by rw [cs_r, if_pos hr, if_neg (by omega), if_neg (by omega), if_neg (by omega), if_pos c3]
      rw [if_pos c3, hc, if_neg (show ¬ (3 : Int) = -1 by decide)]
      have eh : hrT (M 0) (M 85) (M 113) 3 = if M 0 < 7 then 1 else 0 := rfl
      by_cases q : M 0 < 7
      · rw [eh, if_pos q, if_neg (show ¬ (1 : Int) = 0 by decide), if_neg (by decide), if_neg (by decide), if_neg (by decide), if_neg (by decide)]; exact CR_fd hn hM (by omega) q
      · rw [eh, if_neg q, if_pos rfl]; unfold rfd; rw [if_pos (by omega)]; exact CR_f rfl rfl rfl
    rw [if_neg c3]
    have hc : csT T n e = -1 := by rw [cs_r, if_pos hr, if_neg c0, if_neg c1, if_neg c2, if_neg c3, if_neg c4, if_neg c5, if_neg c6, if_neg c7]
    rw [if_pos hc]; exact CR_f rfl rfl rfl
  · have hc : csT T n e = -1 := by rw [cs_r, if_neg hr]
    rw [if_neg hr, if_pos hc]; exact CR_f rfl rfl rfl
end
theorem rtk_3 {T : Int → Int} {n e : Int} : rtk T n e = 3 ↔ (tkK T n e = 3 ∧ T (tkB T n e) = 59) := by
  have q := tkK_r T n e
  unfold rtk
  by_cases h : tkK T n e = 2
  · rw [if_pos h]
    constructor
    · intro z; split at z <;> omega
    · intro z; omega
  rw [if_neg h]
  by_cases h3 : tkK T n e = 3
  · rw [if_pos h3]
    by_cases h4 : T (tkB T n e) = 59
    · rw [if_pos h4]; exact ⟨fun _ => ⟨h3, h4⟩, fun _ => rfl⟩
    · rw [if_neg h4]; exact ⟨fun z => absurd z (by decide), fun z => absurd z.2 h4⟩
  · rw [if_neg h3]; exact ⟨fun z => absurd z h3, fun z => absurd z.1 h3⟩
theorem rtk_0 {T : Int → Int} {n e : Int} : rtk T n e = 0 ↔ tkK T n e = 0 := by
  have q := tkK_r T n e
  unfold rtk
  by_cases h : tkK T n e = 2
  · rw [if_pos h]
    constructor
    · intro z; split at z <;> omega
    · intro z; omega
  rw [if_neg h]
  by_cases h3 : tkK T n e = 3
  · rw [if_pos h3]
    constructor
    · intro z; split at z <;> omega
    · intro z; omega
  · rw [if_neg h3]
theorem tkB_0 {T : Int → Int} {n e : Int} (h : 0 ≤ e) : 0 ≤ tkB T n e := by have := tkB_b T n e; omega
theorem pcl_p {T : Int → Int} {n e f g w : Int} {R : Int → Int} (h : 0 ≤ e ∧ e ≤ 200) (hn : n ≤ 200) : 0 ≤ (pcl T n e R f g w).2.1 := (pcl_e h hn).1
theorem pfl_rdl {T M0 : Int → Int} {n : Int} (hn : n ≤ 200) : ∀ (k : Nat) (e c : Int) (RR : Int → Int → Int) (M : Int → Int), c + k = 20 → 0 ≤ c → 0 < k → 0 ≤ e ∧ e ≤ 200 → PB M → M = fo (fun i X => apR T (RR i) X) M0 c.toNat → (∀ i, 0 ≤ i → i < c → WFR T (RR i)) → (∀ i, 0 ≤ i → i ≤ c → PB (fo (fun i X => apR T (RR i) X) M0 i.toNat)) →
    (pfl T n k e c RR (M 0) (M 85) (M 113)).1 = (rdl T n k e c M).1 ∧ (pfl T n k e c RR (M 0) (M 85) (M 113)).2.1 = (rdl T n k e c M).2.1 ∧ ((pfl T n k e c RR (M 0) (M 85) (M 113)).1 = -1 →
      ((rdl T n k e c M).2.2 = fo (fun i X => apR T ((pfl T n k e c RR (M 0) (M 85) (M 113)).2.2 i) X) M0 (pfl T n k e c RR (M 0) (M 85) (M 113)).2.1.toNat ∧ (∀ i, 0 ≤ i → i < (pfl T n k e c RR (M 0) (M 85) (M 113)).2.1 → WFR T ((pfl T n k e c RR (M 0) (M 85) (M 113)).2.2 i)) ∧ 0 ≤ (pfl T n k e c RR (M 0) (M 85) (M 113)).2.1 ∧ (pfl T n k e c RR (M 0) (M 85) (M 113)).2.1 ≤ 20 ∧ (∀ i, 0 ≤ i → i ≤ (pfl T n k e c RR (M 0) (M 85) (M 113)).2.1 → PB (fo (fun i X => apR T ((pfl T n k e c RR (M 0) (M 85) (M 113)).2.2 i) X) M0 i.toNat))) ∧ PB (rdl T n k e c M).2.2 ∧ (GE M → GE (rdl T n k e c M).2.2) ∧ (LZ M → LZ (rdl T n k e c M).2.2) ∧ (CHp M → CHp (rdl T n k e c M).2.2)) := by
  intro k
  induction k with
  | zero => intro e c RR M _ _ hk; omega
  | succ k ih =>
    intro e c RR M hk hc _ he hM hF hW hQ
    have q := pcl_rcl (T := T) (n := n) (e := e) (R := RR c) (M := M) hn hM
    have pe := pcl_e (T := T) (n := n) (e := e) (f := M 0) (g := M 85) (w := M 113) (R := RR c) he hn
    unfold pfl rdl
    generalize hp : pcl T n e (RR c) (M 0) (M 85) (M 113) = p at *
    generalize hr : rcl T n e M = r at *
    rcases q with ⟨q1, q2, q3⟩ | ⟨q1, q2, q3, q4, q5, q6, q7, q8, q9, qc⟩
    · rw [if_pos q1, if_pos q2, q3]
      refine ⟨rfl, rfl, fun z => ?_⟩
      have z : tkB T n r.2.1 = -1 := z
      have := tkB_0 (T := T) (n := n) (e := r.2.1) (by omega)
      omega
    rw [if_neg (show ¬ p.1 = 0 by omega), if_neg (show ¬ r.1 = 0 by omega), q3]
    rw [q3] at pe
    have eF : ∀ R1 : Int → Int, fo (fun i X => apR T (ur2 RR c R1 i) X) M0 c.toNat = M := fun R1 => (fo_cg c (fun i X i0 i1 => by rw [ur2_o (by omega)])).trans hF.symm
    have eF1 : r.2.2 = fo (fun i X => apR T (ur2 RR c p.2.2.1 i) X) M0 (c + 1).toNat := by
      rw [fo_s hc, eF, ur2_i]; exact q4
    have hW1 : ∀ i, 0 ≤ i → i < c + 1 → WFR T (ur2 RR c p.2.2.1 i) := fun i i0 i1 => by
      by_cases z : i = c
      · rw [z, ur2_i]; exact q6
      · rw [ur2_o z]; exact hW i i0 (by omega)
    have hQ1 : ∀ i, 0 ≤ i → i ≤ c + 1 → PB (fo (fun i X => apR T (ur2 RR c p.2.2.1 i) X) M0 i.toNat) := fun i i0 i1 => by
      by_cases z : i = c + 1
      · rw [z, ← eF1]; exact q7
      · rw [fo_cg (g := fun i X => apR T (RR i) X) i (fun j X j0 j1 => by rw [ur2_o (by omega)])]; exact hQ i i0 (by omega)
    by_cases h3 : rtk T n (tkQ T n r.2.1) = 3 ∧ c + 1 < 20
    · have h4 := rtk_3.mp h3.1
      rw [if_pos h3, if_neg (by omega), if_pos ⟨h4, by omega⟩, q5.1, q5.2.1, q5.2.2]
      have i1 := ih (tkQ T n (tkQ T n r.2.1)) (c + 1) (ur2 RR c p.2.2.1) r.2.2 (by omega) (by omega) (by omega) (tkQ_e pe hn) q7 eF1 hW1 hQ1
      exact ⟨i1.1, i1.2.1, fun z => ⟨(i1.2.2 z).1, (i1.2.2 z).2.1, fun y => (i1.2.2 z).2.2.1 (q8 y), fun y => (i1.2.2 z).2.2.2.1 (q9 y), fun y => (i1.2.2 z).2.2.2.2 (qc y)⟩⟩
    · rw [if_neg h3]
      by_cases h0 : tkK T n (tkQ T n r.2.1) = 0
      · rw [if_pos h0, if_pos (rtk_0.mpr h0)]
        exact ⟨rfl, rfl, fun _ => ⟨⟨eF1, hW1, by show 0 ≤ c + 1; omega, by show c + 1 ≤ 20; omega, hQ1⟩, q7, q8, q9, qc⟩⟩
      · rw [if_neg h0, if_neg (fun z => h0 (rtk_0.mp z)), if_neg (fun z => h3 ⟨rtk_3.mpr z.1, by omega⟩)]
        refine ⟨rfl, rfl, fun z => ?_⟩
        have z : tkB T n (tkQ T n r.2.1) = -1 := z
        have := tkB_0 (T := T) (n := n) (e := tkQ T n r.2.1) (by omega)
        omega
