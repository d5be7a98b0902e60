/-! PARISH: what is told agrees -/
theorem LN_r {T R : Int → Int} (h : WFR T R) (hr : R 0 ≤ 3 ∨ R 0 = 6) : LN T R := by
  rcases hr with e | e
  · exact (h.1 e).2
  · exact h.2.2 e
/-- one clause told -/
theorem tell_r {S : rS} {M : Int → Int} {c : Int} (hS : Bd S) (hc : 0 ≤ c ∧ c < 20) (h : PAr S M) (hM : PB M) (hM' : PB (apR (S 2) (S (5 + c)) M)) (hW : WFR (S 2) (S (5 + c))) : PAr (w_X3_tell S c).2 (apR (S 2) (S (5 + c)) M) := by
  have r0 := bdo_5_0 hS hc
  have r5 := bdo_5_5 hS hc
  have h' := h
  obtain ⟨⟨n0, n6, n10, n13⟩, hf, hg, hw⟩ := h'
  unfold w_X3_tell
  by_cases c4 : S (5 + c) 0 = 4
  · rw [if_pos c4]
    have a : ∀ j, 0 ≤ j ∧ j < 186 → apR (S 2) (S (5 + c)) M j = 0 := fun j => ap_a c4
    have a186 : apR (S 2) (S (5 + c)) M 186 = 60 := by unfold apR urf; rw [if_pos c4, if_pos (by omega)]; rfl
    refine ⟨⟨?_, ?_, ?_, ?_⟩, fun f f0 f1 => ?_, fun g g0 g1 => ?_, fun w w0 w1 => ?_⟩
    · rw [a 0 (by omega)]; rfl
    · rw [a 85 (by omega)]; rfl
    · rw [a 113 (by omega)]; rfl
    · rw [a186]; rfl
    · rw [a 0 (by omega)] at f1; omega
    · rw [a 85 (by omega)] at g1; omega
    · rw [a 113 (by omega)] at w1; omega
  rw [if_neg c4]
  by_cases c5 : S (5 + c) 0 = 5
  · rw [if_pos c5]
    have a0 : apR (S 2) (S (5 + c)) M 85 = M 85 + 1 := ap_g0 c5
    have ao : ∀ j, ¬ j = 85 → ¬ (j = 86 + M 85 ∨ j = 95 + M 85 ∨ j = 104 + M 85) → apR (S 2) (S (5 + c)) M j = M j := fun j => ap_g c5
    have k9 : M 85 < 9 := by have := hM'.2.1; rw [a0] at this; omega
    have a86 : apR (S 2) (S (5 + c)) M (86 + M 85) = S (5 + c) 1 := by unfold apR; rw [if_neg c4, if_pos c5, ur_o (by omega), ur_o (by omega), ur_o (by omega), ur_i]
    have a95 : apR (S 2) (S (5 + c)) M (95 + M 85) = S (5 + c) 2 := by unfold apR; rw [if_neg c4, if_pos c5, ur_o (by omega), ur_o (by omega), ur_i]
    have a104 : apR (S 2) (S (5 + c)) M (104 + M 85) = S (5 + c) 3 := by unfold apR; rw [if_neg c4, if_pos c5, ur_o (by omega), ur_i]
    unfold w_X3_tellGate
    rw [if_pos (by omega)]
    show PAr (mx_up (mx_up (mx_up (mx_up S 38 (S 25 6) (S (5 + c) 1)) 39 (S 25 6) (S (5 + c) 2)) 40 (S 25 6) (S (5 + c) 3)) 25 6 ((S 25 6) + 1)) _
    rw [n6]
    generalize hX : mx_up (mx_up (mx_up (mx_up S 38 (M 85) (S (5 + c) 1)) 39 (M 85) (S (5 + c) 2)) 40 (M 85) (S (5 + c) 3)) 25 6 (M 85 + 1) = X
    have xo : ∀ a j : Int, ¬ (a = 25 ∧ j = 6) → ¬ (38 ≤ a ∧ a ≤ 40 ∧ j = M 85) → X a j = S a j := fun a j z1 z2 => by rw [← hX, up_ne (by omega), up_ne (by omega), up_ne (by omega), up_ne (by omega)]
    refine ⟨⟨?_, ?_, ?_, ?_⟩, fun f f0 f1 => ?_, fun g g0 g1 => ?_, fun w w0 w1 => ?_⟩
    · rw [ao 0 (by omega) (by omega), xo 25 0 (by omega) (by omega)]; exact n0
    · rw [a0, ← hX, up_eq]
    · rw [ao 113 (by omega) (by omega), xo 25 10 (by omega) (by omega)]; exact n10
    · rw [ao 186 (by omega) (by omega), xo 25 13 (by omega) (by omega)]; exact n13
    · rw [ao 0 (by omega) (by omega)] at f1
      have q := hf f f0 f1
      have b22 := hM.1
      rw [xo 26 f (by omega) (by omega), xo 27 f (by omega) (by omega), xo 28 f (by omega) (by omega), xo 29 f (by omega) (by omega), ao (1 + f) (by omega) (by omega), ao (8 + f) (by omega) (by omega), ao (15 + f) (by omega) (by omega), ao (22 + f) (by omega) (by omega)]
      have l8 : 0 ≤ S 29 f ∧ S 29 f ≤ 8 := hS 29 f
      exact ⟨q.1, fun p p0 p1 => by rw [xo (31 + f) p (by omega) (by omega), ao (29 + 8 * f + p) (by have := q.1.2.2.2; omega) (by have := q.1.2.2.2; omega)]; exact q.2 p p0 p1⟩
    · rw [a0] at g1
      by_cases z : g = M 85
      · rw [z, a86, a95, a104, ← hX]
        exact ⟨by rw [up_ne (by omega), up_ne (by omega), up_ne (by omega), up_eq], by rw [up_ne (by omega), up_ne (by omega), up_eq], by rw [up_ne (by omega), up_eq]⟩
      · have q := hg g g0 (by omega)
        rw [xo 38 g (by omega) (by omega), xo 39 g (by omega) (by omega), xo 40 g (by omega) (by omega), ao (86 + g) (by omega) (by omega), ao (95 + g) (by omega) (by omega), ao (104 + g) (by omega) (by omega)]
        exact q
    · rw [ao 113 (by omega) (by omega)] at w1
      have q := hw w w0 w1
      have b := hM.2.2
      rw [xo 41 w (by omega) (by omega), ao (114 + w) (by omega) (by omega)]
      exact ⟨q.1, fun p p0 p1 => by rw [xo (43 + w) p (by omega) (by omega), ao (122 + 8 * w + p) (by omega) (by omega)]; exact q.2 p p0 p1⟩
  rw [if_neg c5]
  by_cases c6 : S (5 + c) 0 = 6
  · rw [if_pos c6]
    have hL := LN_r hW (Or.inr c6)
    have a0 : apR (S 2) (S (5 + c)) M 113 = M 113 + 1 := ap_w0 c6
    have k8 : M 113 < 8 := by have := hM'.2.2; rw [a0] at this; omega
    have ao : ∀ j, ¬ j = 113 → ¬ j = 114 + M 113 → ¬ (122 + 8 * M 113 ≤ j ∧ j < 130 + 8 * M 113) → apR (S 2) (S (5 + c)) M j = M j := fun j => ap_w c6 (by omega) hM k8
    have a114 : apR (S 2) (S (5 + c)) M (114 + M 113) = S (5 + c) 5 := by unfold apR lnM; rw [if_neg c4, if_neg c5, if_pos c6, ur_o (by omega), urb_o (by omega), ur_i]
    have a122 : ∀ p, 0 ≤ p → p < S (5 + c) 5 → apR (S 2) (S (5 + c)) M (122 + 8 * M 113 + p) = S 2 (S (5 + c) 4 + p) - 97 := fun p p0 p1 => by
      unfold apR lnM urb
      rw [if_neg c4, if_neg c5, if_pos c6, ur_o (by omega), if_pos (by omega)]
      show S 2 (S (5 + c) 4 + (122 + 8 * M 113 + p - (122 + 8 * M 113))) - 97 = _
      rw [show 122 + 8 * M 113 + p - (122 + 8 * M 113) = p by omega]
    unfold w_X3_tellWord
    rw [if_pos (by omega)]
    show PAr (mx_up (spl (mx_up S 41 (S 25 10) (S (5 + c) 5)) (43 + (S 25 10)) (5 + c)) 25 10 ((S 25 10) + 1)) _
    rw [n10]
    generalize hX : mx_up (spl (mx_up S 41 (M 113) (S (5 + c) 5)) (43 + M 113) (5 + c)) 25 10 (M 113 + 1) = X
    have xo : ∀ a j : Int, ¬ (a = 25 ∧ j = 10) → ¬ (a = 41 ∧ j = M 113) → ¬ a = 43 + M 113 → X a j = S a j := fun a j z1 z2 z3 => by rw [← hX, up_ne (by omega), spl_o (by omega), up_ne (by omega)]
    refine ⟨⟨?_, ?_, ?_, ?_⟩, fun f f0 f1 => ?_, fun g g0 g1 => ?_, fun w w0 w1 => ?_⟩
    · rw [ao 0 (by omega) (by omega) (by omega), xo 25 0 (by omega) (by omega) (by omega)]; exact n0
    · rw [ao 85 (by omega) (by omega) (by omega), xo 25 6 (by omega) (by omega) (by omega)]; exact n6
    · rw [a0, ← hX, up_eq]
    · rw [ao 186 (by omega) (by omega) (by omega), xo 25 13 (by omega) (by omega) (by omega)]; exact n13
    · rw [ao 0 (by omega) (by omega) (by omega)] at f1
      have q := hf f f0 f1
      have b22 := hM.1
      have l8 : 0 ≤ S 29 f ∧ S 29 f ≤ 8 := hS 29 f
      rw [xo 26 f (by omega) (by omega) (by omega), xo 27 f (by omega) (by omega) (by omega), xo 28 f (by omega) (by omega) (by omega), xo 29 f (by omega) (by omega) (by omega), ao (1 + f) (by omega) (by omega) (by omega), ao (8 + f) (by omega) (by omega) (by omega), ao (15 + f) (by omega) (by omega) (by omega), ao (22 + f) (by omega) (by omega) (by omega)]
      exact ⟨q.1, fun p p0 p1 => by rw [xo (31 + f) p (by omega) (by omega) (by omega), ao (29 + 8 * f + p) (by have := q.1.2.2.2; omega) (by have := q.1.2.2.2; omega) (by have := q.1.2.2.2; omega)]; exact q.2 p p0 p1⟩
    · rw [ao 85 (by omega) (by omega) (by omega)] at g1
      have b6 := hM.2.1
      rw [xo 38 g (by omega) (by omega) (by omega), xo 39 g (by omega) (by omega) (by omega), xo 40 g (by omega) (by omega) (by omega), ao (86 + g) (by omega) (by omega) (by omega), ao (95 + g) (by omega) (by omega) (by omega), ao (104 + g) (by omega) (by omega) (by omega)]
      exact hg g g0 g1
    · rw [a0] at w1
      by_cases z : w = M 113
      · rw [z, a114]
        refine ⟨by rw [← hX, up_ne (by omega), spl_o (by omega), up_eq], fun p p0 p1 => ?_⟩
        rw [a122 p p0 p1, ← hX, up_ne (by omega)]
        unfold spl
        have e5 : ∀ j : Int, mx_up S 41 (M 113) (S (5 + c) 5) (5 + c) j = S (5 + c) j := fun j => up_ne (by omega)
        have e2 : ∀ j : Int, mx_up S 41 (M 113) (S (5 + c) 5) 2 j = S 2 j := fun j => up_ne (by omega)
        rw [fl_i (by rw [e5]; exact ⟨p0, p1⟩)]
        show mx_up S 41 (M 113) (S (5 + c) 5) 2 (mx_up S 41 (M 113) (S (5 + c) 5) (5 + c) 4 + p) - 97 = _
        rw [e5, e2]
      · have q := hw w w0 (by omega)
        have l8 : 0 ≤ S 41 w ∧ S 41 w ≤ 8 := hS 41 w
        rw [xo 41 w (by omega) (by omega) (by omega), ao (114 + w) (by omega) (by omega) (by omega)]
        exact ⟨q.1, fun p p0 p1 => by rw [xo (43 + w) p (by omega) (by omega) (by omega), ao (122 + 8 * w + p) (by omega) (by omega) (by have := q.1; omega)]; exact q.2 p p0 p1⟩
  rw [if_neg c6]
  by_cases c7 : S (5 + c) 0 = 7
  · rw [if_pos c7]
    have ao : ∀ j, ¬ j = 186 → apR (S 2) (S (5 + c)) M j = M j := fun j => ap_d c7
    have a186 : apR (S 2) (S (5 + c)) M 186 = S (5 + c) 1 := by unfold apR; rw [if_neg c4, if_neg c5, if_neg c6, if_pos c7, ur_i]
    have xo : ∀ a j : Int, ¬ (a = 25 ∧ j = 13) → (0, mx_up S 25 13 (S (5 + c) 1)).2 a j = S a j := fun a j z => up_ne (by omega)
    refine ⟨⟨?_, ?_, ?_, ?_⟩, fun f f0 f1 => ?_, fun g g0 g1 => ?_, fun w w0 w1 => ?_⟩
    · rw [ao 0 (by omega), xo 25 0 (by omega)]; exact n0
    · rw [ao 85 (by omega), xo 25 6 (by omega)]; exact n6
    · rw [ao 113 (by omega), xo 25 10 (by omega)]; exact n10
    · rw [a186]; exact (show mx_up S 25 13 (S (5 + c) 1) 25 13 = _ from up_eq)
    · rw [ao 0 (by omega)] at f1
      have q := hf f f0 f1
      have b22 := hM.1
      have l8 : 0 ≤ S 29 f ∧ S 29 f ≤ 8 := hS 29 f
      rw [xo 26 f (by omega), xo 27 f (by omega), xo 28 f (by omega), xo 29 f (by omega), ao (1 + f) (by omega), ao (8 + f) (by omega), ao (15 + f) (by omega), ao (22 + f) (by omega)]
      exact ⟨q.1, fun p p0 p1 => by rw [xo (31 + f) p (by omega), ao (29 + 8 * f + p) (by have := q.1.2.2.2; omega)]; exact q.2 p p0 p1⟩
    · rw [ao 85 (by omega)] at g1
      have b6 := hM.2.1
      rw [xo 38 g (by omega), xo 39 g (by omega), xo 40 g (by omega), ao (86 + g) (by omega), ao (95 + g) (by omega), ao (104 + g) (by omega)]
      exact hg g g0 g1
    · rw [ao 113 (by omega)] at w1
      have q := hw w w0 w1
      have b := hM.2.2
      have l8 : 0 ≤ S 41 w ∧ S 41 w ≤ 8 := hS 41 w
      rw [xo 41 w (by omega), ao (114 + w) (by omega)]
      exact ⟨q.1, fun p p0 p1 => by rw [xo (43 + w) p (by omega), ao (122 + 8 * w + p) (by have := q.1; omega)]; exact q.2 p p0 p1⟩
  rw [if_neg c7]
  have c3 : S (5 + c) 0 ≤ 3 := by omega
  have hL := LN_r hW (Or.inl c3)
  have a0 : apR (S 2) (S (5 + c)) M 0 = M 0 + 1 := ap_f0 c3
  have k7 : M 0 < 7 := by have := hM'.1; rw [a0] at this; omega
  have m0 := hM.1
  have ao : ∀ j, ¬ j = 0 → ¬ (j = 1 + M 0 ∨ j = 8 + M 0 ∨ j = 15 + M 0 ∨ j = 22 + M 0) → ¬ (29 + 8 * M 0 ≤ j ∧ j < 37 + 8 * M 0) → apR (S 2) (S (5 + c)) M j = M j := fun j => ap_f c3 (by omega) hM k7
  have ax : ∀ j, ¬ j = 0 → ¬ (29 + 8 * M 0 ≤ j ∧ j < 29 + 8 * M 0 + S (5 + c) 5) → apR (S 2) (S (5 + c)) M j = ur (ur (ur (ur M (1 + M 0) (S (5 + c) 0)) (8 + M 0) (S (5 + c) 1)) (15 + M 0) (S (5 + c) 2)) (22 + M 0) (S (5 + c) 5) j := fun j z1 z2 => by
    unfold apR lnM; rw [if_neg c4, if_neg c5, if_neg c6, if_neg c7, ur_o z1, urb_o z2]
  have a1 : apR (S 2) (S (5 + c)) M (1 + M 0) = S (5 + c) 0 := by rw [ax _ (by omega) (by omega), ur_o (by omega), ur_o (by omega), ur_o (by omega), ur_i]
  have a8 : apR (S 2) (S (5 + c)) M (8 + M 0) = S (5 + c) 1 := by rw [ax _ (by omega) (by omega), ur_o (by omega), ur_o (by omega), ur_i]
  have a15 : apR (S 2) (S (5 + c)) M (15 + M 0) = S (5 + c) 2 := by rw [ax _ (by omega) (by omega), ur_o (by omega), ur_i]
  have a22 : apR (S 2) (S (5 + c)) M (22 + M 0) = S (5 + c) 5 := by rw [ax _ (by omega) (by omega), ur_i]
  have a29 : ∀ p, 0 ≤ p → p < S (5 + c) 5 → apR (S 2) (S (5 + c)) M (29 + 8 * M 0 + p) = S 2 (S (5 + c) 4 + p) - 97 := fun p p0 p1 => by
    unfold apR lnM urb
    rw [if_neg c4, if_neg c5, if_neg c6, if_neg c7, ur_o (by omega), if_pos (by omega)]
    show S 2 (S (5 + c) 4 + (29 + 8 * M 0 + p - (29 + 8 * M 0))) - 97 = _
    rw [show 29 + 8 * M 0 + p - (29 + 8 * M 0) = p by omega]
  unfold w_X3_tellField
  rw [if_pos (by omega)]
  show PAr (mx_up (spl (mx_up (mx_up (mx_up (mx_up S 26 (S 25 0) (S (5 + c) 0)) 27 (S 25 0) (S (5 + c) 1)) 28 (S 25 0) (S (5 + c) 2)) 29 (S 25 0) (S (5 + c) 5)) (31 + (S 25 0)) (5 + c)) 25 0 ((S 25 0) + 1)) _
  rw [n0]
  generalize hY : mx_up (mx_up (mx_up (mx_up S 26 (M 0) (S (5 + c) 0)) 27 (M 0) (S (5 + c) 1)) 28 (M 0) (S (5 + c) 2)) 29 (M 0) (S (5 + c) 5) = Y
  have yo : ∀ a j : Int, ¬ (26 ≤ a ∧ a ≤ 29 ∧ j = M 0) → Y a j = S a j := fun a j z => by rw [← hY, up_ne (by omega), up_ne (by omega), up_ne (by omega), up_ne (by omega)]
  generalize hX : mx_up (spl Y (31 + M 0) (5 + c)) 25 0 (M 0 + 1) = X
  have xo : ∀ a j : Int, ¬ (a = 25 ∧ j = 0) → ¬ (26 ≤ a ∧ a ≤ 29 ∧ j = M 0) → ¬ a = 31 + M 0 → X a j = S a j := fun a j z1 z2 z3 => by rw [← hX, up_ne (by omega), spl_o (by omega), yo a j z2]
  refine ⟨⟨?_, ?_, ?_, ?_⟩, fun f f0 f1 => ?_, fun g g0 g1 => ?_, fun w w0 w1 => ?_⟩
  · rw [a0, ← hX, up_eq]
  · rw [ao 85 (by omega) (by omega) (by omega), xo 25 6 (by omega) (by omega) (by omega)]; exact n6
  · rw [ao 113 (by omega) (by omega) (by omega), xo 25 10 (by omega) (by omega) (by omega)]; exact n10
  · rw [ao 186 (by omega) (by omega) (by omega), xo 25 13 (by omega) (by omega) (by omega)]; exact n13
  · rw [a0] at f1
    by_cases z : f = M 0
    · rw [z, a1, a8, a15, a22]
      refine ⟨⟨?_, ?_, ?_, ?_⟩, fun p p0 p1 => ?_⟩
      · rw [← hX, up_ne (by omega), spl_o (by omega), ← hY, up_ne (by omega), up_ne (by omega), up_ne (by omega), up_eq]
      · rw [← hX, up_ne (by omega), spl_o (by omega), ← hY, up_ne (by omega), up_ne (by omega), up_eq]
      · rw [← hX, up_ne (by omega), spl_o (by omega), ← hY, up_ne (by omega), up_eq]
      · rw [← hX, up_ne (by omega), spl_o (by omega), ← hY, up_eq]
      · rw [a29 p p0 p1, ← hX, up_ne (by omega)]
        unfold spl
        rw [fl_i (by rw [yo (5 + c) 5 (by omega)]; exact ⟨p0, p1⟩)]
        show Y 2 (Y (5 + c) 4 + p) - 97 = _
        rw [yo (5 + c) 4 (by omega), yo 2 _ (by omega)]
    · have q := hf f f0 (by omega)
      have l8 : 0 ≤ S 29 f ∧ S 29 f ≤ 8 := hS 29 f
      rw [xo 26 f (by omega) (by omega) (by omega), xo 27 f (by omega) (by omega) (by omega), xo 28 f (by omega) (by omega) (by omega), xo 29 f (by omega) (by omega) (by omega), ao (1 + f) (by omega) (by omega) (by omega), ao (8 + f) (by omega) (by omega) (by omega), ao (15 + f) (by omega) (by omega) (by omega), ao (22 + f) (by omega) (by omega) (by omega)]
      exact ⟨q.1, fun p p0 p1 => by rw [xo (31 + f) p (by omega) (by omega) (by omega), ao (29 + 8 * f + p) (by omega) (by omega) (by have := q.1.2.2.2; omega)]; exact q.2 p p0 p1⟩
  · rw [ao 85 (by omega) (by omega) (by omega)] at g1
    have b6 := hM.2.1
    rw [xo 38 g (by omega) (by omega) (by omega), xo 39 g (by omega) (by omega) (by omega), xo 40 g (by omega) (by omega) (by omega), ao (86 + g) (by omega) (by omega) (by omega), ao (95 + g) (by omega) (by omega) (by omega), ao (104 + g) (by omega) (by omega) (by omega)]
    exact hg g g0 g1
  · rw [ao 113 (by omega) (by omega) (by omega)] at w1
    have q := hw w w0 w1
    have b := hM.2.2
    have l8 : 0 ≤ S 41 w ∧ S 41 w ≤ 8 := hS 41 w
    rw [xo 41 w (by omega) (by omega) (by omega), ao (114 + w) (by omega) (by omega) (by omega)]
    exact ⟨q.1, fun p p0 p1 => by rw [xo (43 + w) p (by omega) (by omega) (by omega), ao (122 + 8 * w + p) (by omega) (by omega) (by omega)]; exact q.2 p p0 p1⟩
/-! WAYS agree -/
def RWW (n : Int) (U V : Int → Int → Int) : Prop := (∀ x y, 0 ≤ x → x < n → 0 ≤ y → y < n → U x y = V x y) ∧ (∀ x y, 0 ≤ x → x < n → n ≤ y → y < 7 → V x y = 1000000 ∧ V y x = 1000000)
theorem u2_e {W : Int → Int → Int} {a b v : Int} : u2 W a b v a b = v := if_pos ⟨rfl, rfl⟩
theorem u2_n {W : Int → Int → Int} {a b v x y : Int} (h : ¬ (x = a ∧ y = b)) : u2 W a b v x y = W x y := if_neg h
theorem RW_u {n : Int} {U V : Int → Int → Int} (h : RWW n U V) {a b v : Int} (ha : 0 ≤ a ∧ a < n) (hb : 0 ≤ b ∧ b < n) : RWW n (u2 U a b v) (u2 V a b v) := by
  refine ⟨fun x y x0 x1 y0 y1 => ?_, fun x y x0 x1 y0 y1 => ?_⟩
  · unfold u2
    by_cases z : x = a ∧ y = b
    · rw [if_pos z, if_pos z]
    · rw [if_neg z, if_neg z]; exact h.1 x y x0 x1 y0 y1
  · rw [u2_n (by omega), u2_n (by omega)]; exact h.2 x y x0 x1 y0 y1
theorem RW_g {n N : Int} {f t m f' t' m' : Int → Int} {U V : Int → Int → Int} (h : RWW n U V) (hk : ∀ k, 0 ≤ k → k < N → f k = f' k ∧ t k = t' k ∧ m k = m' k ∧ (0 ≤ f' k ∧ f' k < n) ∧ 0 ≤ t' k ∧ t' k < n) : RWW n (fo (gts f t m) U N.toNat) (fo (gts f' t' m') V N.toNat) :=
  fo_rel (f := gts f t m) (g := gts f' t' m') (fun _ a b => RWW n a b) h (N := N.toNat) (fun k a b k0 k1 hR => by
    obtain ⟨e1, e2, e3, e4, e5⟩ := hk k k0 (by omega)
    unfold gts
    rw [e1, e2, e3, hR.1 (f' k) (t' k) e4.1 e4.2 e5.1 e5.2]
    exact RW_u (RW_u hR e4 e5) e5 e4) N.toNat (Nat.le_refl _)
theorem pr_i {n b : Int} {N W : Int → Int → Int} {x y : Int} (h : (0 ≤ x ∧ x < n) ∧ 0 ≤ y ∧ y < n) : pr n n 0 N W x y = N x y := if_pos (by omega)
theorem RW_p {n o : Int} {U V : Int → Int → Int} (hn : n ≤ 7) (ho : 0 ≤ o ∧ o < n) (hV : bnd V) (h : RWW n U V) : RWW n (pr n n 0 (SW o U) U) (pr 7 7 0 (SW o V) V) := by
  refine ⟨fun x y x0 x1 y0 y1 => ?_, fun x y x0 x1 y0 y1 => ?_⟩
  · rw [pr_i (b := 0) (by omega), pr_i (b := 0) (by omega)]
    unfold SW
    rw [h.1 x y x0 x1 y0 y1, h.1 x o x0 x1 ho.1 ho.2, h.1 o y ho.1 ho.2 y0 y1]
  · rw [pr_i (b := 0) (by omega), pr_i (b := 0) (by omega)]
    have q := h.2 x y x0 x1 y0 y1
    have q1 := (h.2 o y ho.1 ho.2 y0 y1)
    have b1 := hV x o x0 (by omega)
    have b2 := hV o x ho.1 (by omega)
    have m1 := mx_min_b (V x y) (V x o + V o y)
    have m2 := mx_min_b (V y x) (V y o + V o x)
    unfold SW
    omega
theorem RW_q {n o : Int} {U V : Int → Int → Int} (ho : n ≤ o ∧ o < 7) (hn : 0 ≤ n) (hV : bnd V) (h : RWW n U V) : RWW n U (pr 7 7 0 (SW o V) V) := by
  refine ⟨fun x y x0 x1 y0 y1 => ?_, fun x y x0 x1 y0 y1 => ?_⟩
  · rw [pr_i (b := 0) (by omega), h.1 x y x0 x1 y0 y1]
    have q := h.2 x o x0 x1 ho.1 ho.2
    have b1 := hV x y x0 (by omega)
    have b2 := hV o y (by omega) (by omega)
    have m1 := mx_min_b (V x y) (V x o + V o y)
    unfold SW
    omega
  · rw [pr_i (b := 0) (by omega), pr_i (b := 0) (by omega)]
    have q := h.2 x y x0 x1 y0 y1
    have q1 := h.2 x o x0 x1 ho.1 ho.2
    have b1 := hV o y (by omega) (by omega)
    have b2 := hV y o (by omega) (by omega)
    have m1 := mx_min_b (V x y) (V x o + V o y)
    have m2 := mx_min_b (V y x) (V y o + V o x)
    unfold SW
    omega
theorem RW_F {n : Int} {U V : Int → Int → Int} (hn : 0 ≤ n ∧ n ≤ 7) (hV : wok 7 V) (h : RWW n U V) : RWW n (FWk n U n) (FWk 7 V 7) := by
  have wk : ∀ m : Nat, (m : Int) ≤ 7 → wok 7 (FWk 7 V m) := fun m hm => wok_F (by omega) hV m hm
  have e : ∀ m : Nat, FWk 7 V ((m : Int) + 1) = pr 7 7 0 (SW m (FWk 7 V m)) (FWk 7 V m) := fun m => FWk_s (by omega)
  have e' : ∀ m : Nat, FWk n U ((m : Int) + 1) = pr n n 0 (SW m (FWk n U m)) (FWk n U m) := fun m => FWk_s (by omega)
  have p1 : ∀ m : Nat, (m : Int) ≤ n → RWW n (FWk n U m) (FWk 7 V m) := by
    intro m
    induction m with
    | zero => intro _; exact h
    | succ m ih =>
      intro hm
      rw [show ((m + 1 : Nat) : Int) = (m : Int) + 1 from rfl, e, e']
      exact RW_p hn.2 (by omega) (wk m (by omega)).1 (ih (by omega))
  have p2 : ∀ m : Nat, n + m ≤ 7 → RWW n (FWk n U n) (FWk 7 V (n + m)) := by
    intro m
    induction m with
    | zero =>
      intro _
      have q := p1 n.toNat (by omega)
      rw [show ((n.toNat : Nat) : Int) = n by omega] at q
      rw [show n + ((0 : Nat) : Int) = n by omega]; exact q
    | succ m ih =>
      intro hm
      rw [show n + ((m + 1 : Nat) : Int) = n + m + 1 by omega, FWk_s (by omega)]
      have w := wk (n + m).toNat (by omega)
      rw [show (((n + m).toNat : Nat) : Int) = n + m by omega] at w
      exact RW_q (by omega) hn.1 w.1 (ih (by omega))
  have q := p2 (7 - n).toNat (by omega)
  rw [show n + ((7 - n).toNat : Int) = 7 by omega] at q
  exact q
/-- the ways, found, keep the triangle's rule -/
theorem FW_tri {V : Int → Int → Int} (hV : wok 7 V) : ∀ m : Nat, (m : Int) ≤ 7 → ∀ k x y : Int, 0 ≤ k → k < m → 0 ≤ x → x < 7 → 0 ≤ y → y < 7 → FWk 7 V m x y ≤ FWk 7 V m x k + FWk 7 V m k y
  | 0, _, k, x, y, k0, k1, _, _, _, _ => by omega
  | m + 1, hm, k, x, y, k0, k1, x0, x1, y0, y1 => by
    have ih := FW_tri hV m (by omega)
    have w := wok_F (n := 7) (by omega) hV m (by omega)
    have w : wok 7 (FWk 7 V m) := w
    rw [show ((m + 1 : Nat) : Int) = (m : Int) + 1 from rfl, FWk_s (by omega)]
    generalize FWk 7 V m = W at *
    have ho : 0 ≤ (m : Int) ∧ (m : Int) < 7 := by omega
    generalize hoe : (m : Int) = o at *
    rw [pr_i (b := 0) (by omega), pr_i (b := 0) (by omega), pr_i (b := 0) (by omega)]
    have b := fun a c (a0 : 0 ≤ a) (a1 : a < 7) => w.1 a c a0 a1
    have m1 := mx_min_b (W x y) (W x o + W o y)
    have m2 := mx_min_b (W x k) (W x o + W o k)
    have m3 := mx_min_b (W k y) (W k o + W o y)
    have boo := w.2 o ho.1 ho.2
    have b1 := b o k ho.1 ho.2
    have b2 := b k o k0 (by omega)
    have b3 := b x o x0 x1
    have b4 := b o y ho.1 ho.2
    unfold SW
    by_cases ek : k = o
    · subst ek; omega
    · have i1 := ih k x y k0 (by omega) x0 x1 y0 y1
      have i2 := ih k o y k0 (by omega) ho.1 ho.2 y0 y1
      have i3 := ih k x o k0 (by omega) x0 x1 ho.1 ho.2
      omega
/-- and they are short, or none -/
theorem FW_sm {V : Int → Int → Int} (hV : wok 7 V) (h : ∀ x y : Int, 0 ≤ x → x < 7 → 0 ≤ y → y < 7 → V x y ≤ 30 ∨ V x y = 1000000) : ∀ m : Nat, (m : Int) ≤ 7 → ∀ x y : Int, 0 ≤ x → x < 7 → 0 ≤ y → y < 7 → FWk 7 V m x y ≤ 30 * 2 ^ m ∨ FWk 7 V m x y = 1000000
  | 0, _, x, y, x0, x1, y0, y1 => h x y x0 x1 y0 y1
  | m + 1, hm, x, y, x0, x1, y0, y1 => by
    have ih := FW_sm hV h m (by omega)
    have w := wok_F (n := 7) (by omega) hV m (by omega)
    have w : wok 7 (FWk 7 V m) := w
    rw [show ((m + 1 : Nat) : Int) = (m : Int) + 1 from rfl, FWk_s (by omega), Int.pow_succ]
    generalize FWk 7 V m = W at *
    have hp : (0 : Int) < 2 ^ m := Int.pow_pos (by decide)
    generalize (2 : Int) ^ m = P at *
    rw [pr_i (b := 0) (by omega)]
    have m1 := mx_min_b (W x y) (W x m + W m y)
    have i1 := ih x y x0 x1 y0 y1
    have i2 := ih x m x0 x1 (by omega) (by omega)
    have i3 := ih m y (by omega) (by omega) y0 y1
    have b1 := w.1 x m x0 x1
    have b2 := w.1 m y (by omega) (by omega)
    unfold SW
    omega
