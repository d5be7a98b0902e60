/-! answers: WHICH, WHOLE, BEFORE, LEAST -/
theorem fo_rel {α β : Type} {f : Int → α → α} {g : Int → β → β} {a : α} {b : β} (R : Int → α → β → Prop) (h0 : R 0 a b) {N : Nat} (hs : ∀ (k : Int) (s : α) (t : β), 0 ≤ k → k < N → R k s t → R (k + 1) (f k s) (g k t)) : ∀ n : Nat, n ≤ N → R n (fo f a n) (fo g b n)
  | 0, _ => h0
  | n + 1, h => by
    have q := hs n _ _ (by omega) (by omega) (fo_rel R h0 hs n (by omega))
    exact q
section
variable {A B : rS}
theorem bs_in {p : Int → Prop} {n k : Int} (hn : 0 ≤ n ∧ n ≤ 31) (hk : 0 ≤ k ∧ k < 32) : tb (bs p n) k ↔ k < n ∧ p k := by
  obtain ⟨m, rfl⟩ := Int.eq_ofNat_of_zero_le hn.1
  have q := bs_bt (p := p) (n := m) (by omega) (i := k.toNat) (by omega)
  rw [show ((k.toNat : Nat) : Int) = k by omega] at q
  constructor
  · intro z; have z := q.mp z; exact ⟨by omega, z.2⟩
  · intro z; exact q.mpr ⟨by omega, z.2⟩
theorem malk_e (hA : Bd A) (hB : Bd B) (h : IV A B) {f k q : Int} (hf : 0 ≤ f ∧ f < B 233 0) (hq : 0 ≤ q ∧ q < B 233 (22 + f)) : malk A (fkM B f k) q = alM B (fkM B f k) q := by
  have n10 : 0 ≤ B 233 113 ∧ B 233 113 ≤ 8 := hB 233 113
  have hw : ∀ w, 0 ≤ w → w < B 233 113 → tb (fkM B f k) w → A (43 + w) q = B 233 (122 + 8 * w + q) := fun w w0 w1 t => by
    have z := (bs_in (by omega) (by omega)).mp t
    exact (h.2.1.1.2.2.2 w w0 w1).2 q hq.1 (by rw [z.2.1]; exact hq.2)
  unfold malk alM
  rw [(iv_n h).2.2.1]
  refine mxs_cg _ (fun w w0 w1 => ?_)
  by_cases t : tb (fkM B f k) w
  · rw [if_pos t]
    refine sm_cg _ (fun v v0 v1 => bi_cg ?_)
    constructor
    · rintro ⟨u, e⟩
      exact ⟨t, u, by rw [hw v v0 v1 u, hw w w0 w1 t] at e; exact e.symm⟩
    · rintro ⟨_, u, e⟩
      exact ⟨u, by rw [hw v v0 v1 u, hw w w0 w1 t]; exact e.symm⟩
  · rw [if_neg t]
    have z : ∀ m : Nat, sm (fun jj => bi (tb (fkM B f k) w ∧ tb (fkM B f k) jj ∧ B 233 (122 + 8 * w + q) = B 233 (122 + 8 * jj + q))) m = 0 := by
      intro m
      induction m with
      | zero => rfl
      | succ m ih => rw [show ((m + 1 : Nat) : Int) = (m : Int) + 1 from rfl, sm_s (by omega), ih, bi_0 (fun z => t z.1)]; rfl
    have z := z (B 233 113).toNat
    rw [show (((B 233 113).toNat : Nat) : Int) = B 233 113 by omega] at z
    exact z.symm
theorem e_which (hA : Bd A) (hB : Bd B) (h : IV A B) {f k : Int} : (if 0 ≤ f ∧ f < A 25 0 then if 0 ≤ k ∧ k ≤ 1 then wch A f k else -3 else -2) = (if 0 ≤ f ∧ f ≤ B 233 0 - 1 then if 0 ≤ k ∧ k ≤ 1 then wcM B f k else -3 else -2) := by
  have n := iv_n h
  have n0 : 0 ≤ B 233 0 ∧ B 233 0 ≤ 7 := hB 233 0
  by_cases hf : 0 ≤ f ∧ f < A 25 0
  · rw [if_pos hf, if_pos (show 0 ≤ f ∧ f ≤ B 233 0 - 1 by omega)]
    by_cases hk : 0 ≤ k ∧ k ≤ 1
    · rw [if_pos hk, if_pos hk]
      have e : fitk A f k = fkM B f k := fitk_e hA hB h (by omega) (by omega)
      have r := iv_f h (f := f) hf.1 (by omega)
      have b22 := bdc_233_22 hB f
      unfold wch wcM
      rw [e, r.1.2.2.2]
      by_cases z : fkM B f k = 0
      · rw [if_pos z, if_pos z]
      · rw [if_neg z, if_neg z]
        have q := fo_rel (f := whs A (fkM B f k) f) (g := whsM B (fkM B f k) f) (a := (-1, 9)) (b := (-1, 1000000)) (fun _ s t => s.1 = t.1 ∧ ((s.2 = 9 ∧ t.2 = 1000000) ∨ (s.2 = t.2 ∧ s.2 ≤ 8))) ⟨rfl, Or.inl ⟨rfl, rfl⟩⟩ (N := (B 233 (22 + f)).toNat) (fun p s t p0 p1 hs => by
          have em := malk_e hA hB h (k := k) (q := p) (f := f) (by omega) ⟨p0, by omega⟩
          have ab := alM_r hB (fkM B f k) p
          unfold whs whsM
          rw [r.2.2]
          by_cases tt : tb (B 236 (0 + f)) p
          · have eb : byM B (fkM B f k) f p = 1000000 := if_pos tt
            rw [if_pos tt, eb, if_neg (by omega)]
            have mm := mx_min_b t.2 1000000
            exact ⟨hs.1, by show (s.2 = 9 ∧ mx_min t.2 1000000 = 1000000) ∨ (s.2 = mx_min t.2 1000000 ∧ s.2 ≤ 8); omega⟩
          · have eb : byM B (fkM B f k) f p = alM B (fkM B f k) p := if_neg tt
            rw [if_neg tt, eb, em]
            have mm := mx_min_b t.2 (alM B (fkM B f k) p)
            by_cases lt : alM B (fkM B f k) p < s.2
            · rw [if_pos lt, if_pos (by omega)]
              exact ⟨rfl, by show (alM B (fkM B f k) p = 9 ∧ mx_min t.2 (alM B (fkM B f k) p) = 1000000) ∨ (alM B (fkM B f k) p = mx_min t.2 (alM B (fkM B f k) p) ∧ alM B (fkM B f k) p ≤ 8); omega⟩
            · rw [if_neg lt, if_neg (by omega)]
              exact ⟨hs.1, by show (s.2 = 9 ∧ mx_min t.2 (alM B (fkM B f k) p) = 1000000) ∨ (s.2 = mx_min t.2 (alM B (fkM B f k) p) ∧ s.2 ≤ 8); omega⟩) (B 233 (22 + f)).toNat (Nat.le_refl _)
        exact q.1
    · rw [if_neg hk, if_neg hk]
  · rw [if_neg hf, if_neg (by omega)]
/-! WHOLE -/
theorem whole_e (hA : Bd A) (hB : Bd B) (h : IV A B) (t : Int) : (whm A t = -1 ∧ 1000000 ≤ wMo B t) ∨ (0 ≤ whm A t ∧ whm A t = wMo B t ∧ wMo B t < 1000000) := by
  have n := iv_n h
  have st := iv_s h
  have n0 : 0 ≤ B 233 0 ∧ B 233 0 ≤ 7 := hB 233 0
  have b4 : 0 ≤ B 236 11 ∧ B 236 11 ≤ 6 := hB 236 11
  have at' := iv_a h
  generalize hW : bs (fun kk => B 233 (8 + kk) = t) (B 233 0) = W
  have hin : ∀ f, 0 ≤ f → f < B 233 0 → (tb W f ↔ B 233 (8 + f) = t) := fun f f0 f1 => by
    rw [← hW, bs_in (by omega) (by omega)]
    exact ⟨fun z => z.2, fun z => ⟨f1, z⟩⟩
  generalize hs0 : (if W = 0 then (1000000 : Int) else 0) = s0
  have hs : (W = 0 ∧ s0 = 1000000) ∨ (W ≠ 0 ∧ s0 = 0) := by
    by_cases z : W = 0
    · rw [if_pos z] at hs0; exact Or.inl ⟨z, hs0.symm⟩
    · rw [if_neg z] at hs0; exact Or.inr ⟨z, hs0.symm⟩
  have hne : ∀ f, 0 ≤ f → f < B 233 0 → B 233 (8 + f) = t → W ≠ 0 := fun f f0 f1 e z => by
    have q := (hin f f0 f1).mpr e
    rw [z] at q
    have q : bt 0 f.toNat = true := q
    rw [b_zero f.toNat (by omega)] at q
    cases q
  have inner : ∀ (c d : Int) (z : Int × Int × Int × Int) (y : Int × Int), 0 ≤ c → c < 9 → ((z.2.2.2 = 1 ∧ 1000000 ≤ y.2) ∨ (z.2.2.2 = 0 ∧ (z.2.2.1 = y.1 ∧ 0 ≤ y.1 ∧ (y.1 < B 233 0 ∨ B 233 0 = 0)) ∧ y.2 = s0 + z.2.1 ∧ (0 ≤ z.2.1 ∧ z.2.1 ≤ 3878 * d) ∧ (z.1 = 0 ∨ z.1 = 1) ∧ (z.1 = 1 → W ≠ 0) ∧ (∀ f, 0 ≤ f → f < B 233 0 → B 233 (8 + f) = t → B 233 (15 + f) ≤ c → z.1 = 1))) →
      ∀ k : Nat, (k : Int) ≤ B 233 0 → (((fo (wsC A t (c + 1)) z k).2.2.2 = 1 ∧ 1000000 ≤ (fo (wsM B W (c + 1)) y k).2) ∨ ((fo (wsC A t (c + 1)) z k).2.2.2 = 0 ∧ ((fo (wsC A t (c + 1)) z k).2.2.1 = (fo (wsM B W (c + 1)) y k).1 ∧ 0 ≤ (fo (wsM B W (c + 1)) y k).1 ∧ ((fo (wsM B W (c + 1)) y k).1 < B 233 0 ∨ B 233 0 = 0)) ∧ (fo (wsM B W (c + 1)) y k).2 = s0 + (fo (wsC A t (c + 1)) z k).2.1 ∧ (0 ≤ (fo (wsC A t (c + 1)) z k).2.1 ∧ (fo (wsC A t (c + 1)) z k).2.1 ≤ 3878 * (d + k)) ∧ ((fo (wsC A t (c + 1)) z k).1 = 0 ∨ (fo (wsC A t (c + 1)) z k).1 = 1) ∧ ((fo (wsC A t (c + 1)) z k).1 = 1 → W ≠ 0) ∧ (∀ f, 0 ≤ f → f < B 233 0 → B 233 (8 + f) = t → (B 233 (15 + f) ≤ c ∨ (B 233 (15 + f) = c + 1 ∧ f < k)) → (fo (wsC A t (c + 1)) z k).1 = 1))) := by
    intro c d z y c0 c9 hzy k hk
    refine fo_rel (f := wsC A t (c + 1)) (g := wsM B W (c + 1)) (a := z) (b := y) (fun k z y => (z.2.2.2 = 1 ∧ 1000000 ≤ y.2) ∨ (z.2.2.2 = 0 ∧ (z.2.2.1 = y.1 ∧ 0 ≤ y.1 ∧ (y.1 < B 233 0 ∨ B 233 0 = 0)) ∧ y.2 = s0 + z.2.1 ∧ (0 ≤ z.2.1 ∧ z.2.1 ≤ 3878 * (d + k)) ∧ (z.1 = 0 ∨ z.1 = 1) ∧ (z.1 = 1 → W ≠ 0) ∧ (∀ f, 0 ≤ f → f < B 233 0 → B 233 (8 + f) = t → (B 233 (15 + f) ≤ c ∨ (B 233 (15 + f) = c + 1 ∧ f < k)) → z.1 = 1))) ?_ (N := (B 233 0).toNat) ?_ k (by omega)
    · rcases hzy with q | ⟨q1, q2, q3, q4, q5, q6, q7⟩
      · exact Or.inl q
      · exact Or.inr ⟨q1, q2, q3, by omega, q5, q6, fun f f0 f1 e hc => q7 f f0 f1 e (by omega)⟩
    · intro k z y k0 k1 hR
      have r := iv_f h k0 (by omega)
      have m34 := mM_r hB (f := k) (by omega)
      have wy : 0 ≤ B 235 (7 * y.1 + k) ∧ B 235 (7 * y.1 + k) ≤ 1000000 := hB 235 _
      have hk := hin k k0 (by omega)
      have hy : 0 ≤ (if B 233 (1 + k) ≠ 1 ∨ B 236 10 < 5 then mins (B 233 (1 + k)) (pop (B 236 (0 + k))) else 1000000) := by split <;> omega
      rcases hR with ⟨q1, q2⟩ | ⟨q1, q2, q3, q4, q5, q6, q7⟩
      · refine Or.inl ?_
        rw [wsC_b q1]
        refine ⟨q1, ?_⟩
        unfold wsM
        split
        · split
          · show 1000000 ≤ y.2 + _; omega
          · exact q2
        · exact q2
      · have ea : A 27 k = B 233 (8 + k) := r.1.2.1
        have eb : A 28 k = B 233 (15 + k) := r.1.2.2.1
        unfold wsC wsM
        rw [if_neg (show ¬ z.2.2.2 = 1 by omega), ea, eb, r.1.1, r.2.2, st.2.2.2.2]
        by_cases hm : B 233 (8 + k) = t ∧ B 233 (15 + k) = c + 1
        · rw [if_pos hm, if_pos (hk.mpr hm.1), if_pos hm.2]
          have wc : A (52 + z.2.2.1) k = B 235 (7 * y.1 + k) := by rw [q2.1]; exact h.2.2.1.1 y.1 k q2.2.1 (by omega) k0 (by omega)
          have wb := h.2.2.1.2.2 y.1 k q2.2.1 (by omega) k0 (by omega)
          rw [wc]
          by_cases hr : B 235 (7 * y.1 + k) < 1000000 ∧ (B 233 (1 + k) ≠ 1 ∨ B 236 10 < 5)
          · rw [if_pos hr, if_pos hr.2]
            refine Or.inr ⟨rfl, ⟨rfl, k0, by show k < B 233 0 ∨ _; omega⟩, by show y.2 + _ = s0 + (z.2.1 + _); omega, by show 0 ≤ z.2.1 + _ ∧ z.2.1 + _ ≤ _; omega, Or.inr rfl, fun _ => hne k k0 (by omega) hm.1, fun _ _ _ _ _ => rfl⟩
          · rw [if_neg hr]
            refine Or.inl ⟨rfl, ?_⟩
            show 1000000 ≤ y.2 + _
            by_cases hr2 : B 233 (1 + k) ≠ 1 ∨ B 236 10 < 5
            · have : ¬ B 235 (7 * y.1 + k) < 1000000 := fun z => hr ⟨z, hr2⟩
              omega
            · rw [if_neg hr2]; omega
        · rw [if_neg hm]
          have keep : ∀ f, 0 ≤ f → f < B 233 0 → B 233 (8 + f) = t → (B 233 (15 + f) ≤ c ∨ (B 233 (15 + f) = c + 1 ∧ f < k + 1)) → z.1 = 1 := fun f f0 f1 e hc => by
            refine q7 f f0 f1 e ?_
            by_cases zz : f = k
            · exact Or.inl (by rcases hc with hc | hc; exact hc; exact absurd ⟨by rw [← zz]; exact e, by rw [← zz]; exact hc.1⟩ hm)
            · rcases hc with hc | hc
              · exact Or.inl hc
              · exact Or.inr ⟨hc.1, by omega⟩
          have goal : (z.2.2.2 = 1 ∧ 1000000 ≤ y.2) ∨ (z.2.2.2 = 0 ∧ (z.2.2.1 = y.1 ∧ 0 ≤ y.1 ∧ (y.1 < B 233 0 ∨ B 233 0 = 0)) ∧ y.2 = s0 + z.2.1 ∧ (0 ≤ z.2.1 ∧ z.2.1 ≤ 3878 * (d + (k + 1))) ∧ (z.1 = 0 ∨ z.1 = 1) ∧ (z.1 = 1 → W ≠ 0) ∧ (∀ f, 0 ≤ f → f < B 233 0 → B 233 (8 + f) = t → (B 233 (15 + f) ≤ c ∨ (B 233 (15 + f) = c + 1 ∧ f < k + 1)) → z.1 = 1)) := Or.inr ⟨q1, q2, q3, by omega, q5, q6, keep⟩
          by_cases t1 : tb W k
          · rw [if_pos t1, if_neg (fun e => hm ⟨hk.mp t1, e⟩)]; exact goal
          · rw [if_neg t1]; exact goal
  have outer := fo_rel (f := fun c z => fo (wsC A t (c + 1)) z (A 25 0).toNat) (g := fun c z => fo (wsM B W (c + 1)) z (B 233 0).toNat) (a := (0, 0, A 59 4, 0)) (b := (B 236 11, s0)) (fun c z y => (z.2.2.2 = 1 ∧ 1000000 ≤ y.2) ∨ (z.2.2.2 = 0 ∧ (z.2.2.1 = y.1 ∧ 0 ≤ y.1 ∧ (y.1 < B 233 0 ∨ B 233 0 = 0)) ∧ y.2 = s0 + z.2.1 ∧ (0 ≤ z.2.1 ∧ z.2.1 ≤ 3878 * (7 * c)) ∧ (z.1 = 0 ∨ z.1 = 1) ∧ (z.1 = 1 → W ≠ 0) ∧ (∀ f, 0 ≤ f → f < B 233 0 → B 233 (8 + f) = t → B 233 (15 + f) ≤ c → z.1 = 1))) (by
      refine Or.inr ⟨rfl, ⟨st.2.2.2.1, b4.1, by show B 236 11 < B 233 0 ∨ B 233 0 = 0; omega⟩, by show s0 = s0 + 0; omega, by show (0 : Int) ≤ 0 ∧ (0 : Int) ≤ _; omega, Or.inl rfl, fun z => absurd (show (0 : Int) = 1 from z) (by decide), fun f f0 f1 _ hc => ?_⟩
      have := h.2.1.2.2.2 f f0 f1
      omega) (N := 9) (fun c z y c0 c1 hR => by
      have q := inner c (7 * c) z y c0 (by omega) hR (B 233 0).toNat (by omega)
      rw [n.1]
      rcases q with q | ⟨q1, q2, q3, q4, q5, q6, q7⟩
      · exact Or.inl q
      · exact Or.inr ⟨q1, q2, q3, by omega, q5, q6, fun f f0 f1 e hc => q7 f f0 f1 e (by omega)⟩) 9 (Nat.le_refl _)
  have e1 : whC A t = fo (fun c z => fo (wsC A t (c + 1)) z (A 25 0).toNat) (0, 0, A 59 4, 0) 9 := rfl
  have e2 : wMo B t = (fo (fun c z => fo (wsM B W (c + 1)) z (B 233 0).toNat) (B 236 11, s0) 9).2 := by unfold wMo whM; rw [hW, hs0]
  rw [← e1] at outer
  unfold whm
  rw [e2]
  rcases outer with ⟨q1, q2⟩ | ⟨q1, q2, q3, q4, q5, q6, q7⟩
  · rw [if_pos q1]; exact Or.inl ⟨rfl, q2⟩
  · rw [if_neg (by omega)]
    by_cases hf : (whC A t).1 = 0
    · rw [if_pos hf]
      refine Or.inl ⟨rfl, ?_⟩
      have w0 : W = 0 := Classical.byContradiction (fun z => by
        -- some field is of the tale
        have ex : ∃ f, 0 ≤ f ∧ f < B 233 0 ∧ B 233 (8 + f) = t := Classical.byContradiction (fun ne => z (by
          rw [← hW]
          have q : bs (fun kk => B 233 (8 + kk) = t) (B 233 0) = bs (fun _ => False) (B 233 0) := bs_cg _ (fun k k0 k1 => ⟨fun e => ne ⟨k, k0, k1, e⟩, fun e => e.elim⟩)
          rw [q]
          have zz : ∀ m : Nat, bs (fun _ => False) m = 0 := by
            intro m
            induction m with
            | zero => rfl
            | succ m ih => rw [show ((m + 1 : Nat) : Int) = (m : Int) + 1 from rfl, bs_f (by omega) (fun e => e), ih]
          have zz := zz (B 233 0).toNat
          rw [show (((B 233 0).toNat : Nat) : Int) = B 233 0 by omega] at zz
          exact zz))
        obtain ⟨f, f0, f1, e⟩ := ex
        have b15 := bdc_233_15 hB f
        have := q7 f f0 f1 e (by show B 233 (15 + f) ≤ 9; omega)
        omega)
      rcases hs with ⟨_, e⟩ | ⟨e, _⟩
      · omega
      · exact absurd w0 e
    · rw [if_neg hf]
      rcases hs with ⟨e, _⟩ | ⟨_, e⟩
      · exact absurd e (q6 (by omega))
      · exact Or.inr ⟨q4.1, by omega, by omega⟩
theorem e_whole (hA : Bd A) (hB : Bd B) (h : IV A B) {t : Int} : v_X10_whole A t = v_X11_whole B t := by
  have q := whole_e hA hB h t
  unfold v_X10_whole v_X11_whole
  by_cases ht : 0 ≤ t ∧ t ≤ 3
  · rw [if_neg (by omega), if_pos (by omega), if_pos ht]
    rcases q with ⟨a, b⟩ | ⟨a, b, c⟩
    · rw [if_neg (by omega), a]
    · rw [if_pos c, b]
  · rw [if_neg ht]
    by_cases k0 : t < 0
    · rw [if_pos k0]
    · rw [if_neg k0, if_neg (by omega)]
theorem e_before (hA : Bd A) (hB : Bd B) (h : IV A B) {t : Int} : v_X10_before A t = v_X11_before B t := by
  have q := whole_e hA hB h t
  have n := iv_n h
  have s := iv_s h
  have dk : 0 ≤ B 233 186 ∧ B 233 186 ≤ 99 := hB 233 186
  have mi : 0 ≤ B 236 7 ∧ B 236 7 ≤ 99 := hB 236 7
  unfold v_X10_before v_X11_before
  by_cases ht : 0 ≤ t ∧ t ≤ 3
  · rw [if_neg (show ¬ t < 0 by omega), if_pos (show t < 4 by omega), if_pos ht, n.2.2.2, s.2.1]
    rcases q with ⟨a, b⟩ | ⟨a, b, c⟩
    · rw [if_pos a, if_pos (by omega)]
    · rw [if_neg (by omega), b]
  · rw [if_neg ht]
    by_cases k0 : t < 0
    · rw [if_pos k0]
    · rw [if_neg k0, if_neg (by omega)]
/-! LEAST -/
theorem sub_pn : ∀ a b : Fin 128, mx_and a.val b.val = a.val → a ≠ b → pop a.val + 1 ≤ pop b.val := by decide +kernel
theorem sub_p {a b : Int} (ha : 0 ≤ a ∧ a < 128) (hb : 0 ≤ b ∧ b < 128) (h : mx_and a b = a) (hn : a ≠ b) : pop a + 1 ≤ pop b := by
  obtain ⟨x, rfl⟩ := Int.eq_ofNat_of_zero_le ha.1
  obtain ⟨y, rfl⟩ := Int.eq_ofNat_of_zero_le hb.1
  exact sub_pn ⟨x, by omega⟩ ⟨y, by omega⟩ h (fun e => hn (by rw [Fin.mk.injEq] at e; omega))
theorem full_n : ∀ n : Fin 8, ∀ a : Fin 128, a.val < 2 ^ n.val → pop a.val ≤ n.val ∧ (pop a.val = n.val → a.val + 1 = 2 ^ n.val) := by decide +kernel
theorem full_p {n : Nat} (hn : n < 8) {a : Int} (ha : 0 ≤ a ∧ a < (2 ^ n : Nat)) : pop a ≤ n ∧ (pop a = n → a + 1 = (2 ^ n : Nat)) := by
  obtain ⟨x, rfl⟩ := Int.eq_ofNat_of_zero_le ha.1
  have h2 : 2 ^ n ≤ 2 ^ 7 := Nat.pow_le_pow_right (by omega) (by omega)
  have q := full_n ⟨n, hn⟩ ⟨x, by omega⟩ (by show x < 2 ^ n; omega)
  exact ⟨q.1, fun e => by have z := q.2 e; have z : x + 1 = 2 ^ n := z; omega⟩
theorem and_or {a e : Int} (h : -2147483648 ≤ a ∧ a < 2147483648) : mx_and a (mx_or a e) = a := b_ext (mx_and_r _ _) h (fun i hi => by rw [b_and, b_or]; cases bt a i <;> simp)
theorem and_tr {a b c : Int} (h : -2147483648 ≤ a ∧ a < 2147483648) (h1 : mx_and a b = a) (h2 : mx_and b c = b) : mx_and a c = a := b_ext (mx_and_r _ _) h (fun i hi => by
  have e1 : bt a i = (bt a i && bt b i) := by rw [← b_and, h1]
  have e2 : bt b i = (bt b i && bt c i) := by rw [← b_and, h2]
  rw [b_and]
  cases ha : bt a i
  · rfl
  · rw [ha] at e1
    have hb : bt b i = true := by rw [Bool.true_and] at e1; exact e1.symm
    rw [hb, Bool.true_and] at e2
    rw [← e2]; rfl)
theorem and_id {a : Int} (h : -2147483648 ≤ a ∧ a < 2147483648) : mx_and a a = a := b_ext (mx_and_r _ _) h (fun i hi => by rw [b_and, Bool.and_self])
def rgs (B : rS) (g : Int) : Int → Int → Int := fun kk xx => if tb g kk ∧ mx_and xx (ends (B 233 (86 + kk)) (B 233 (95 + kk))) ≠ 0 then mx_or xx (ends (B 233 (86 + kk)) (B 233 (95 + kk))) else xx
theorem rgs_c (B : rS) (g k y : Int) : rgs B g k y = mx_or y (ends (B 233 (86 + k)) (B 233 (95 + k))) ∨ rgs B g k y = y := by
  unfold rgs; split
  · exact Or.inl rfl
  · exact Or.inr rfl
/-- a round through the gates: no field is lost, none is beyond -/
theorem rgM_b (hB : Bd B) (hG : GE (B 233)) (g : Int) {x : Int} {n : Nat} (hn : (n : Int) = B 233 0) (hx : 0 ≤ x ∧ x < (2 ^ n : Nat)) : (0 ≤ rgM B g x ∧ rgM B g x < (2 ^ n : Nat)) ∧ mx_and x (rgM B g x) = x := by
  have n0 : 0 ≤ B 233 0 ∧ B 233 0 ≤ 7 := hB 233 0
  have h2 : 2 ^ n ≤ 2 ^ 7 := Nat.pow_le_pow_right (by omega) (by omega)
  have n6 : 0 ≤ B 233 85 ∧ B 233 85 ≤ 9 := hB 233 85
  have e0 : rgM B g x = fo (rgs B g) x (B 233 85).toNat := rfl
  rw [e0]
  refine fo_ind (f := rgs B g) (a := x) (fun _ y => (0 ≤ y ∧ y < (2 ^ n : Nat)) ∧ mx_and x y = x) ⟨hx, and_id (by omega)⟩ (N := (B 233 85).toNat) (fun k y k0 k1 hy => ?_) _ (Nat.le_refl _)
  have e := hG k k0 (by omega)
  rcases rgs_c B g k y with c | c
  · rw [c]
    have s1 := shl_u (k := B 233 (86 + k)) n (by omega) (by omega)
    have s2 := shl_u (k := B 233 (95 + k)) n (by omega) (by omega)
    have eo := or_u (a := mx_shl 1 (B 233 (86 + k))) (b := mx_shl 1 (B 233 (95 + k))) n (by omega) s1 s2 (by omega) (by omega)
    have o2 := or_u (a := y) (b := ends (B 233 (86 + k)) (B 233 (95 + k))) n (by omega) hy.1 eo (by omega) (by unfold ends; omega)
    exact ⟨o2, and_tr (b := y) (by omega) hy.2 (and_or (by omega))⟩
  · rw [c]; exact hy
theorem rg_e (hB : Bd B) (h : IV A B) (g x : Int) : rgt A g x = rgM B g x := by
  unfold rgt rgM
  rw [(iv_n h).2.1]
  refine fo_cg _ (fun k s k0 k1 => ?_)
  have e := h.2.1.1.2.2.1 k k0 k1
  rw [e.1, e.2.1]
theorem rch_e (hA : Bd A) (hB : Bd B) (h : IV A B) (g : Int) (hn : B 233 0 ≠ 0) : rchk A g (A 59 4) = cbM B g := by
  have n0 : 0 ≤ B 233 0 ∧ B 233 0 ≤ 7 := hB 233 0
  have b4 : 0 ≤ B 236 11 ∧ B 236 11 ≤ 6 := hB 236 11
  have at' := iv_a h
  have st := iv_s h
  have nn := iv_n h
  obtain ⟨n, hN⟩ := Int.eq_ofNat_of_zero_le n0.1
  have s0 := shl_u (k := B 236 11) n (by omega) (by omega)
  have h2 : 2 ^ n ≤ 2 ^ 7 := Nat.pow_le_pow_right (by omega) (by omega)
  have fx := fun (x : Int) => rgM_b hB h.2.1.2.1 g (x := x) (n := n) hN.symm
  unfold rchk cbM
  rw [nn.1, st.2.2.2.1, show (fun (_ : Int) xx => rgt A g xx) = (fun (_ : Int) xx => rgM B g xx) from funext fun _ => funext fun x => rg_e hB h g x]
  have key : ∀ m : Nat, (0 ≤ fo (fun _ xx => rgM B g xx) (mx_shl 1 (B 236 11)) m ∧ fo (fun _ xx => rgM B g xx) (mx_shl 1 (B 236 11)) m < (2 ^ n : Nat)) ∧ (rgM B g (fo (fun _ xx => rgM B g xx) (mx_shl 1 (B 236 11)) m) = fo (fun _ xx => rgM B g xx) (mx_shl 1 (B 236 11)) m ∨ (m : Int) + 1 ≤ pop (fo (fun _ xx => rgM B g xx) (mx_shl 1 (B 236 11)) m)) := by
    intro m
    induction m with
    | zero =>
      refine ⟨s0, Or.inr ?_⟩
      show ((0 : Nat) : Int) + 1 ≤ pop (mx_shl 1 (B 236 11))
      have p1 : ∀ k : Fin 7, 1 ≤ pop (mx_shl 1 k.val) := by decide +kernel
      obtain ⟨a, ha⟩ := Int.eq_ofNat_of_zero_le b4.1
      have := p1 ⟨a, by omega⟩
      rw [ha]
      exact this
    | succ m ih =>
      have q := fx _ ih.1
      refine ⟨q.1, ?_⟩
      show rgM B g (rgM B g _) = rgM B g _ ∨ _ ≤ pop (rgM B g _)
      rcases ih.2 with e | e
      · left; rw [e, e]
      · by_cases z : rgM B g (fo (fun _ xx => rgM B g xx) (mx_shl 1 (B 236 11)) m) = fo (fun _ xx => rgM B g xx) (mx_shl 1 (B 236 11)) m
        · left; rw [z, z]
        · right
          have := sub_p (by omega) (by omega) q.2 (fun w => z w.symm)
          omega
  have hk := key (n - 1)
  refine (fo_fix (f := fun xx => rgM B g xx) (n := (B 233 0 - 1).toNat) (m := 128) ?_ (by omega)).symm
  rw [show (B 233 0 - 1).toNat = n - 1 by omega]
  rcases hk.2 with e | e
  · exact e
  · generalize fo (fun _ xx => rgM B g xx) (mx_shl 1 (B 236 11)) (n - 1) = x at *
    have q := fx x hk.1
    have p := full_p (n := n) (by omega) hk.1
    have p2 := full_p (n := n) (by omega) q.1
    by_cases z : x = rgM B g x
    · exact z.symm
    · have := sub_p (by omega) (by omega) q.2 z
      omega
theorem lss_e {a b : Int} (hb : -2147483648 ≤ b ∧ b < 2147483648) : mx_and a b = b ↔ mx_and b (mx_xor a (-1)) = 0 := by
  constructor
  · intro e
    refine b_ext (mx_and_r _ _) (by omega) (fun i hi => ?_)
    have e1 : bt b i = (bt a i && bt b i) := by rw [← b_and, e]
    rw [b_and, b_xor, b_m1 i hi, b_zero i hi]
    cases ha : bt a i <;> cases hb : bt b i <;> rw [ha, hb] at e1 <;> first | rfl | cases e1
  · intro e
    refine b_ext (mx_and_r _ _) hb (fun i hi => ?_)
    have e1 : (bt b i && (bt a i ^^ true)) = false := by rw [← b_m1 i hi, ← b_xor, ← b_and, e, b_zero i hi]
    rw [b_and]
    cases ha : bt a i <;> cases hb : bt b i <;> rw [ha, hb] at e1 <;> first | rfl | cases e1
theorem e_least (hA : Bd A) (hB : Bd B) (h : IV A B) {t : Int} : (if 0 ≤ t ∧ t < 4 then lsk A t else -2) = (if 0 ≤ t ∧ t ≤ 3 then lkM B t else -2) := by
  have nn := iv_n h
  have n0 : 0 ≤ B 233 0 ∧ B 233 0 ≤ 7 := hB 233 0
  have n6 : 0 ≤ B 233 85 ∧ B 233 85 ≤ 9 := hB 233 85
  by_cases ht : 0 ≤ t ∧ t < 4
  · rw [if_pos ht, if_pos (by omega)]
    have eW : bs (fun kk => A 27 kk = t) (A 25 0) = bs (fun kk => B 233 (8 + kk) = t) (B 233 0) := by
      rw [nn.1]
      exact bs_cg _ (fun k k0 k1 => by rw [(iv_f h k0 k1).1.2.1])
    unfold lsk lkM
    rw [eW, nn.2.1]
    generalize hW : bs (fun kk => B 233 (8 + kk) = t) (B 233 0) = W
    have wr := bs_r (fun kk => B 233 (8 + kk) = t) (B 233 0)
    rw [hW] at wr
    by_cases z : W = 0
    · rw [if_pos z, if_pos z]
    · rw [if_neg z, if_neg z]
      have hn : B 233 0 ≠ 0 := fun e => z (by rw [← hW, e]; rfl)
      have s9 := sh9 n6
      have q := fo_rel (f := lss A W) (g := lsM B W) (a := (-1, 10)) (b := (-1 : Int)) (fun k s y => s.1 = y ∧ ((y = -1 ∧ s.2 = 10) ∨ (0 ≤ y ∧ s.2 = pop y))) ⟨rfl, Or.inl ⟨rfl, rfl⟩⟩ (N := (mx_shl 1 (B 233 85)).toNat) (fun k s y k0 k1 hs => by
        have ec := rch_e hA hB h k hn
        have pk := pop_r k
        unfold lss lsM
        rw [ec]
        by_cases c1 : pop k < s.2
        · rw [if_pos c1, if_pos (show y = -1 ∨ pop k < pop y by omega)]
          by_cases c2 : mx_and (cbM B k) W = W
          · rw [if_pos c2, if_pos ((lss_e wr).mp c2)]
            exact ⟨rfl, Or.inr ⟨k0, rfl⟩⟩
          · rw [if_neg c2, if_neg (fun e => c2 ((lss_e wr).mpr e))]; exact hs
        · rw [if_neg c1, if_neg (by omega)]; exact hs) (mx_shl 1 (B 233 85)).toNat (Nat.le_refl _)
      exact q.1
  · rw [if_neg ht, if_neg (by omega)]
end
