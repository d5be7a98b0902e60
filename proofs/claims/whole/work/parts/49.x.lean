/-! CALLS that change something -/
theorem rem_l {A : rS} (hA : Bd A) {a j : Int} (h : ¬ (a = 61 ∧ (j = 0 ∨ j = 2))) (h1 : a ≠ 63 + 2 * A 61 2) (h2 : a ≠ 64 + 2 * A 61 2) : rem A a j = A a j := by
  unfold rem
  rw [up_ne (by omega), up_ne (by omega), tks_o (by omega)]
theorem rem_n {A : rS} (hA : Bd A) : (∀ j : Int, 1 ≤ j → j ≤ 5 → rem A (63 + 2 * A 61 2) j = A 59 j) ∧ (∀ j : Int, 0 ≤ j → j < 7 → rem A (64 + 2 * A 61 2) j = A 60 j) ∧ rem A 61 2 = (A 61 2 + 1) % 8 ∧ rem A 61 0 = mx_min (A 61 0 + 1) 8 := by
  have b : 0 ≤ A 61 2 ∧ A 61 2 ≤ 7 := hA 61 2
  unfold rem
  refine ⟨fun j j0 j1 => ?_, fun j j0 j1 => ?_, ?_, up_eq⟩
  · rw [up_ne (by omega), up_ne (by omega), tks_f ⟨j0, j1⟩]
  · rw [up_ne (by omega), up_ne (by omega), tks_l (by omega) ⟨j0, j1⟩]; rfl
  · rw [up_ne (by omega), up_eq]
theorem rmM_p {B : rS} (hB : Bd B) : (B 232 5 = 8 → rmM B 232 5 = 8 ∧ (∀ j : Int, 0 ≤ j → j < 84 → rmM B 237 j = B 237 (j + 12)) ∧ ∀ j : Int, 0 ≤ j → j < 12 → rmM B 237 (84 + j) = B 236 j) ∧ (B 232 5 ≠ 8 → rmM B 232 5 = B 232 5 + 1 ∧ (∀ j : Int, j < 12 * B 232 5 → rmM B 237 j = B 237 j) ∧ ∀ j : Int, 0 ≤ j → j < 12 → rmM B 237 (12 * B 232 5 + j) = B 236 j) := by
  have u5 : 0 ≤ B 232 5 ∧ B 232 5 ≤ 8 := hB 232 5
  constructor
  · intro e
    unfold rmM
    rw [if_pos e, e]
    refine ⟨up_eq, fun j j0 j1 => ?_, fun j j0 j1 => ?_⟩
    · rw [up_ne (by omega), cp_ox (by omega), up_ne (by omega), cp_i (by omega)]; exact congrArg (B 237) (by omega)
    · rw [up_ne (by omega), cp_i (by omega), up_ne (by omega), cp_o (by omega)]; exact congrArg (B 236) (by omega)
  · intro e
    unfold rmM
    rw [if_neg e]
    refine ⟨up_eq, fun j j1 => ?_, fun j j0 j1 => ?_⟩
    · rw [up_ne (by omega), cp_ox (by omega)]
    · rw [up_ne (by omega), cp_i (by omega)]; exact congrArg (B 236) (by omega)
section
variable {A B A' B' : rS}
theorem PS_rem (hA : Bd A) (hB : Bd B) (h : IV A B) : PSr (rem A) (rmM B) := by
  have b : 0 ≤ A 61 2 ∧ A 61 2 ≤ 7 := hA 61 2
  have n0 : 0 ≤ B 233 0 ∧ B 233 0 ≤ 7 := hB 233 0
  have u5 : 0 ≤ B 232 5 ∧ B 232 5 ≤ 8 := hB 232 5
  have p := h.2.2.2.2.1
  have r := rem_n hA
  have m := rmM_p hB
  have mi := mx_min_b (A 61 0 + 1) 8
  have en : rmM B 233 0 = B 233 0 := rmM_o (by omega)
  have nw : ∀ (y : Int), (∀ j : Int, 0 ≤ j → j < 12 → rmM B 237 (y + j) = B 236 j) → SR (rem A) (63 + 2 * A 61 2) (fun j => rmM B 237 (y + j)) (B 233 0) := fun y hy => by
    obtain ⟨a1, a2, ⟨c1, c2, c3, c4, c5⟩, a4⟩ := h.2.2.2.1
    refine ⟨fun f f0 f1 => ?_, fun f f0 f1 f2 => ?_, ⟨?_, ?_, ?_, ?_, ?_⟩, ?_⟩
    · show rem A (63 + 2 * A 61 2 + 1) f = rmM B 237 (y + f)
      rw [show 63 + 2 * A 61 2 + 1 = 64 + 2 * A 61 2 by omega, r.2.1 f f0 (by omega), hy f f0 (by omega)]; exact a1 f f0 f1
    · show rmM B 237 (y + f) = 0
      rw [hy f f0 (by omega)]; exact a2 f f0 f1 f2
    · show rem A (63 + 2 * A 61 2) 1 = rmM B 237 (y + 9)
      rw [r.1 1 (by omega) (by omega), hy 9 (by omega) (by omega)]; exact c1
    · show rem A (63 + 2 * A 61 2) 2 = rmM B 237 (y + 7)
      rw [r.1 2 (by omega) (by omega), hy 7 (by omega) (by omega)]; exact c2
    · show rem A (63 + 2 * A 61 2) 3 = rmM B 237 (y + 8)
      rw [r.1 3 (by omega) (by omega), hy 8 (by omega) (by omega)]; exact c3
    · show rem A (63 + 2 * A 61 2) 4 = rmM B 237 (y + 11)
      rw [r.1 4 (by omega) (by omega), hy 11 (by omega) (by omega)]; exact c4
    · show rem A (63 + 2 * A 61 2) 5 = rmM B 237 (y + 10)
      rw [r.1 5 (by omega) (by omega), hy 10 (by omega) (by omega)]; exact c5
    · show rmM B 237 (y + 11) < _ ∨ _ ∧ rmM B 237 (y + 11) = 0
      rw [hy 11 (by omega) (by omega)]; exact a4
  unfold PSr
  rw [r.2.2.1, r.2.2.2, en]
  have p1 := p.1
  by_cases e : B 232 5 = 8
  · have m := m.1 e
    rw [m.1]
    refine ⟨by omega, fun k k0 k1 => ?_⟩
    by_cases k7 : k = 7
    · rw [show ((A 61 2 + 1) % 8 + 8 - 8 + k) % 8 = A 61 2 by omega, k7]
      exact nw 84 m.2.2
    · have q := p.2 (k + 1) (by omega) (by omega)
      rw [e, show (A 61 2 + 8 - 8 + (k + 1)) % 8 = ((A 61 2 + 1) % 8 + 8 - 8 + k) % 8 by omega] at q
      generalize hi : ((A 61 2 + 1) % 8 + 8 - 8 + k) % 8 = i at *
      have ine : i ≠ A 61 2 := by omega
      have ib : 0 ≤ i ∧ i < 8 := by omega
      exact SR_cg q (fun j j0 j1 => rem_l hA (by omega) (by omega) (by omega)) (fun j => rem_l hA (by omega) (by omega) (by omega)) (fun j j0 j1 => by
        show rmM B 237 (12 * k + j) = B 237 (12 * (k + 1) + j)
        rw [m.2.1 _ (by omega) (by omega)]; exact congrArg (B 237) (by omega)) n0
  · have m := m.2 e
    rw [m.1]
    have p1 := p.1
    refine ⟨by omega, fun k k0 k1 => ?_⟩
    by_cases k7 : k = B 232 5
    · rw [show ((A 61 2 + 1) % 8 + 8 - (B 232 5 + 1) + k) % 8 = A 61 2 by omega, k7]
      exact nw _ m.2.2
    · have q := p.2 k k0 (by omega)
      rw [show (A 61 2 + 8 - B 232 5 + k) % 8 = ((A 61 2 + 1) % 8 + 8 - (B 232 5 + 1) + k) % 8 by omega] at q
      generalize hi : ((A 61 2 + 1) % 8 + 8 - (B 232 5 + 1) + k) % 8 = i at *
      have ine : i ≠ A 61 2 := by omega
      have ib : 0 ≤ i ∧ i < 8 := by omega
      exact SR_cg q (fun j j0 j1 => rem_l hA (by omega) (by omega) (by omega)) (fun j => rem_l hA (by omega) (by omega) (by omega)) (fun j j0 j1 => m.2.1 _ (by omega)) n0
/-- what is done, behind what is remembered -/
theorem IV_do (hA : Bd A) (hB : Bd B) (h : IV A B) (h1 : ∀ a j : Int, ¬ (59 ≤ a ∧ a ≤ 60) → A' a j = rem A a j) (h2 : ∀ a j : Int, ¬ a = 236 → B' a j = rmM B a j) (hN : NWr A' B') : IV A' B' := by
  have n0 : 0 ≤ B 233 0 ∧ B 233 0 ≤ 7 := hB 233 0
  have g1 : ∀ a j : Int, ¬ (59 ≤ a ∧ a ≤ 78) → A' a j = A a j := fun a j z => (h1 a j (by omega)).trans (rem_o hA (by omega))
  have g2 : ∀ a j : Int, ¬ (236 ≤ a ∧ a ≤ 237 ∨ a = 232 ∧ j = 5) → B' a j = B a j := fun a j z => (h2 a j (by omega)).trans (rmM_o (by omega))
  have e233 : B' 233 = B 233 := funext fun j => g2 233 j (by omega)
  have em : rmM B 233 0 = B 233 0 := rmM_o (by omega)
  obtain ⟨a, ⟨b1, b2, b3, b4⟩, ⟨c1, c2, c3⟩, d, e, f, g, i⟩ := h
  have hP := PS_rem hA hB ⟨a, ⟨b1, b2, b3, b4⟩, ⟨c1, c2, c3⟩, d, e, f, g, i⟩
  refine ⟨TX_cg a (fun a j h => g1 a j (by omega)) (fun a j h => g2 a j (by omega)), ?_, ?_, hN, PS_cg hP (by rw [em]; exact n0) (fun a j h => h1 a j (by omega)) (fun a j h => h2 a j (by omega)), KP_cg f n0 (fun a j h => g1 a j (by omega)) (fun a j h => g2 a j (by omega)), SG_cg g (fun a j h => g1 a j (by omega)) (fun a j h => g2 a j (by omega)), SH_cg i (fun a j h => g1 a j (by omega)) (fun a j h => g2 a j (by omega))⟩
  · rw [e233]; exact ⟨PA_cg b1 (PBB hB) (fun a j h => g1 a j (by omega)), b2, b3, b4⟩
  · rw [e233]; exact ⟨WY_cg c1 n0.2 (fun a j h => g1 a j (by omega)) (fun j => g2 235 j (by omega)), TRI_cg c2 (fun j => g2 235 j (by omega)), WB_cg c3 (fun j => g2 235 j (by omega))⟩
/-- a state anew: its parts one by one -/
theorem NW_mk {l n r m d a w : Int → Int} (hn : B' 233 0 = B 233 0) (h : NWr A B) (hl : ∀ f, 0 ≤ f → f < B 233 0 → A' 60 f = B' 236 f) (hz : ∀ f, 0 ≤ f → B 233 0 ≤ f → f < 7 → B' 236 f = 0) (h1 : A' 59 1 = B' 236 9) (h2 : A' 59 2 = B' 236 7) (h3 : A' 59 3 = B' 236 8) (h4 : A' 59 4 = B' 236 11) (h5 : A' 59 5 = B' 236 10) (ha : B' 236 11 < B 233 0 ∨ B 233 0 = 0 ∧ B' 236 11 = 0) : NWr A' B' := by
  unfold NWr; rw [hn]; exact ⟨hl, hz, ⟨h1, h2, h3, h4, h5⟩, ha⟩
theorem s_write (hA : Bd A) (hB : Bd B) (h : IV A B) {c : Int} : (w_X10_write A c).1 = (w_X11_write B c).1 ∧ IV (w_X10_write A c).2 (w_X11_write B c).2 := by
  have n0 : 0 ≤ B 233 0 ∧ B 233 0 ≤ 7 := hB 233 0
  have nn := iv_n h
  have st := iv_s h
  have t1 := h.1.1
  have b1 : 0 ≤ A 1 1 ∧ A 1 1 ≤ 200 := hA 1 1
  unfold w_X10_write w_X11_write
  by_cases c0 : 0 ≤ c ∧ c ≤ 255
  · rw [if_neg (by omega), if_neg (by omega), if_pos c0]
    by_cases f : B 232 9 = 200
    · rw [if_neg (by omega), if_pos f]; exact ⟨rfl, h⟩
    · rw [if_pos (by omega), if_neg f]
      refine ⟨by show A 1 1 + 1 = B 232 9 + 1; omega, ?_⟩
      have t2 := h.1.2
      show IV (mx_up (mx_up A 2 (A 1 1) c) 1 1 (A 1 1 + 1)) (mx_up (mx_up B 240 (B 232 9) c) 232 9 (B 232 9 + 1))
      obtain ⟨a1, ⟨a21, a22, a23, a24⟩, ⟨a31, a32, a33⟩, a4, a5, a6, a7, a8⟩ := h
      have e233 : (mx_up (mx_up B 240 (B 232 9) c) 232 9 (B 232 9 + 1)) 233 = B 233 := funext fun j => by repeat (first | rfl | rw [up_ne (by omega)] | rw [rem_o hA (by omega)] | rw [rmM_o (by omega)] | rw [fl_o (by omega)] | rw [tks_o (by omega)] | rw [cp_o (by omega)] | rw [rst_o (by omega)] | rw [rnw_o (by omega)] | rw [putl_o (by omega)] | rw [fz_o (by omega)])
      refine ⟨⟨by show A 1 1 + 1 = B 232 9 + 1; omega, fun j => by
        show mx_up A 2 (A 1 1) c 2 j = mx_up B 240 (B 232 9) c 240 j
        rw [t1]
        by_cases e : j = B 232 9
        · rw [e, up_eq, up_eq]
        · rw [up_ne (by omega), up_ne (by omega)]; exact t2 j⟩, ?_, ?_, NW_cg a4 n0 (fun a j z => by repeat (first | rfl | rw [up_ne (by omega)] | rw [rem_o hA (by omega)] | rw [rmM_o (by omega)] | rw [fl_o (by omega)] | rw [tks_o (by omega)] | rw [cp_o (by omega)] | rw [rst_o (by omega)] | rw [rnw_o (by omega)] | rw [putl_o (by omega)] | rw [fz_o (by omega)])) (fun a j z => by repeat (first | rfl | rw [up_ne (by omega)] | rw [rem_o hA (by omega)] | rw [rmM_o (by omega)] | rw [fl_o (by omega)] | rw [tks_o (by omega)] | rw [cp_o (by omega)] | rw [rst_o (by omega)] | rw [rnw_o (by omega)] | rw [putl_o (by omega)] | rw [fz_o (by omega)])), PS_cg a5 n0 (fun a j z => by repeat (first | rfl | rw [up_ne (by omega)] | rw [rem_o hA (by omega)] | rw [rmM_o (by omega)] | rw [fl_o (by omega)] | rw [tks_o (by omega)] | rw [cp_o (by omega)] | rw [rst_o (by omega)] | rw [rnw_o (by omega)] | rw [putl_o (by omega)] | rw [fz_o (by omega)])) (fun a j z => by repeat (first | rfl | rw [up_ne (by omega)] | rw [rem_o hA (by omega)] | rw [rmM_o (by omega)] | rw [fl_o (by omega)] | rw [tks_o (by omega)] | rw [cp_o (by omega)] | rw [rst_o (by omega)] | rw [rnw_o (by omega)] | rw [putl_o (by omega)] | rw [fz_o (by omega)])), KP_cg a6 n0 (fun a j z => by repeat (first | rfl | rw [up_ne (by omega)] | rw [rem_o hA (by omega)] | rw [rmM_o (by omega)] | rw [fl_o (by omega)] | rw [tks_o (by omega)] | rw [cp_o (by omega)] | rw [rst_o (by omega)] | rw [rnw_o (by omega)] | rw [putl_o (by omega)] | rw [fz_o (by omega)])) (fun a j z => by repeat (first | rfl | rw [up_ne (by omega)] | rw [rem_o hA (by omega)] | rw [rmM_o (by omega)] | rw [fl_o (by omega)] | rw [tks_o (by omega)] | rw [cp_o (by omega)] | rw [rst_o (by omega)] | rw [rnw_o (by omega)] | rw [putl_o (by omega)] | rw [fz_o (by omega)])), SG_cg a7 (fun a j z => by repeat (first | rfl | rw [up_ne (by omega)] | rw [rem_o hA (by omega)] | rw [rmM_o (by omega)] | rw [fl_o (by omega)] | rw [tks_o (by omega)] | rw [cp_o (by omega)] | rw [rst_o (by omega)] | rw [rnw_o (by omega)] | rw [putl_o (by omega)] | rw [fz_o (by omega)])) (fun a j z => by repeat (first | rfl | rw [up_ne (by omega)] | rw [rem_o hA (by omega)] | rw [rmM_o (by omega)] | rw [fl_o (by omega)] | rw [tks_o (by omega)] | rw [cp_o (by omega)] | rw [rst_o (by omega)] | rw [rnw_o (by omega)] | rw [putl_o (by omega)] | rw [fz_o (by omega)])), SH_cg a8 (fun a j z => by repeat (first | rfl | rw [up_ne (by omega)] | rw [rem_o hA (by omega)] | rw [rmM_o (by omega)] | rw [fl_o (by omega)] | rw [tks_o (by omega)] | rw [cp_o (by omega)] | rw [rst_o (by omega)] | rw [rnw_o (by omega)] | rw [putl_o (by omega)] | rw [fz_o (by omega)])) (fun a j z => by repeat (first | rfl | rw [up_ne (by omega)] | rw [rem_o hA (by omega)] | rw [rmM_o (by omega)] | rw [fl_o (by omega)] | rw [tks_o (by omega)] | rw [cp_o (by omega)] | rw [rst_o (by omega)] | rw [rnw_o (by omega)] | rw [putl_o (by omega)] | rw [fz_o (by omega)]))⟩
      · rw [e233]; exact ⟨PA_cg a21 (PBB hB) (fun a j z => by repeat (first | rfl | rw [up_ne (by omega)] | rw [rem_o hA (by omega)] | rw [rmM_o (by omega)] | rw [fl_o (by omega)] | rw [tks_o (by omega)] | rw [cp_o (by omega)] | rw [rst_o (by omega)] | rw [rnw_o (by omega)] | rw [putl_o (by omega)] | rw [fz_o (by omega)])), a22, a23, a24⟩
      · rw [e233]; exact ⟨WY_cg a31 n0.2 (fun a j z => by repeat (first | rfl | rw [up_ne (by omega)] | rw [rem_o hA (by omega)] | rw [rmM_o (by omega)] | rw [fl_o (by omega)] | rw [tks_o (by omega)] | rw [cp_o (by omega)] | rw [rst_o (by omega)] | rw [rnw_o (by omega)] | rw [putl_o (by omega)] | rw [fz_o (by omega)])) (fun j => by repeat (first | rfl | rw [up_ne (by omega)] | rw [rem_o hA (by omega)] | rw [rmM_o (by omega)] | rw [fl_o (by omega)] | rw [tks_o (by omega)] | rw [cp_o (by omega)] | rw [rst_o (by omega)] | rw [rnw_o (by omega)] | rw [putl_o (by omega)] | rw [fz_o (by omega)])), TRI_cg a32 (fun j => by repeat (first | rfl | rw [up_ne (by omega)] | rw [rem_o hA (by omega)] | rw [rmM_o (by omega)] | rw [fl_o (by omega)] | rw [tks_o (by omega)] | rw [cp_o (by omega)] | rw [rst_o (by omega)] | rw [rnw_o (by omega)] | rw [putl_o (by omega)] | rw [fz_o (by omega)])), WB_cg a33 (fun j => by repeat (first | rfl | rw [up_ne (by omega)] | rw [rem_o hA (by omega)] | rw [rmM_o (by omega)] | rw [fl_o (by omega)] | rw [tks_o (by omega)] | rw [cp_o (by omega)] | rw [rst_o (by omega)] | rw [rnw_o (by omega)] | rw [putl_o (by omega)] | rw [fz_o (by omega)]))⟩
  · rw [if_neg c0]
    by_cases k0 : c < 0
    · rw [if_pos k0]; exact ⟨rfl, h⟩
    · rw [if_neg k0, if_pos (by omega)]; exact ⟨rfl, h⟩
theorem s_erase (hA : Bd A) (hB : Bd B) (h : IV A B) : (w_X10_erase A).1 = (w_X11_erase B).1 ∧ IV (w_X10_erase A).2 (w_X11_erase B).2 := by
  have n0 : 0 ≤ B 233 0 ∧ B 233 0 ≤ 7 := hB 233 0
  have nn := iv_n h
  have st := iv_s h
  have t1 := h.1.1
  unfold w_X10_erase w_X11_erase
  refine ⟨t1, ?_⟩
  have t2 := h.1.2
  show IV (mx_up A 1 1 0) (mx_up B 232 9 0)
  obtain ⟨a1, ⟨a21, a22, a23, a24⟩, ⟨a31, a32, a33⟩, a4, a5, a6, a7, a8⟩ := h
  have e233 : (mx_up B 232 9 0) 233 = B 233 := funext fun j => by repeat (first | rfl | rw [up_ne (by omega)] | rw [rem_o hA (by omega)] | rw [rmM_o (by omega)] | rw [fl_o (by omega)] | rw [tks_o (by omega)] | rw [cp_o (by omega)] | rw [rst_o (by omega)] | rw [rnw_o (by omega)] | rw [putl_o (by omega)] | rw [fz_o (by omega)])
  refine ⟨⟨rfl, fun j => t2 j⟩, ?_, ?_, NW_cg a4 n0 (fun a j z => by repeat (first | rfl | rw [up_ne (by omega)] | rw [rem_o hA (by omega)] | rw [rmM_o (by omega)] | rw [fl_o (by omega)] | rw [tks_o (by omega)] | rw [cp_o (by omega)] | rw [rst_o (by omega)] | rw [rnw_o (by omega)] | rw [putl_o (by omega)] | rw [fz_o (by omega)])) (fun a j z => by repeat (first | rfl | rw [up_ne (by omega)] | rw [rem_o hA (by omega)] | rw [rmM_o (by omega)] | rw [fl_o (by omega)] | rw [tks_o (by omega)] | rw [cp_o (by omega)] | rw [rst_o (by omega)] | rw [rnw_o (by omega)] | rw [putl_o (by omega)] | rw [fz_o (by omega)])), PS_cg a5 n0 (fun a j z => by repeat (first | rfl | rw [up_ne (by omega)] | rw [rem_o hA (by omega)] | rw [rmM_o (by omega)] | rw [fl_o (by omega)] | rw [tks_o (by omega)] | rw [cp_o (by omega)] | rw [rst_o (by omega)] | rw [rnw_o (by omega)] | rw [putl_o (by omega)] | rw [fz_o (by omega)])) (fun a j z => by repeat (first | rfl | rw [up_ne (by omega)] | rw [rem_o hA (by omega)] | rw [rmM_o (by omega)] | rw [fl_o (by omega)] | rw [tks_o (by omega)] | rw [cp_o (by omega)] | rw [rst_o (by omega)] | rw [rnw_o (by omega)] | rw [putl_o (by omega)] | rw [fz_o (by omega)])), KP_cg a6 n0 (fun a j z => by repeat (first | rfl | rw [up_ne (by omega)] | rw [rem_o hA (by omega)] | rw [rmM_o (by omega)] | rw [fl_o (by omega)] | rw [tks_o (by omega)] | rw [cp_o (by omega)] | rw [rst_o (by omega)] | rw [rnw_o (by omega)] | rw [putl_o (by omega)] | rw [fz_o (by omega)])) (fun a j z => by repeat (first | rfl | rw [up_ne (by omega)] | rw [rem_o hA (by omega)] | rw [rmM_o (by omega)] | rw [fl_o (by omega)] | rw [tks_o (by omega)] | rw [cp_o (by omega)] | rw [rst_o (by omega)] | rw [rnw_o (by omega)] | rw [putl_o (by omega)] | rw [fz_o (by omega)])), SG_cg a7 (fun a j z => by repeat (first | rfl | rw [up_ne (by omega)] | rw [rem_o hA (by omega)] | rw [rmM_o (by omega)] | rw [fl_o (by omega)] | rw [tks_o (by omega)] | rw [cp_o (by omega)] | rw [rst_o (by omega)] | rw [rnw_o (by omega)] | rw [putl_o (by omega)] | rw [fz_o (by omega)])) (fun a j z => by repeat (first | rfl | rw [up_ne (by omega)] | rw [rem_o hA (by omega)] | rw [rmM_o (by omega)] | rw [fl_o (by omega)] | rw [tks_o (by omega)] | rw [cp_o (by omega)] | rw [rst_o (by omega)] | rw [rnw_o (by omega)] | rw [putl_o (by omega)] | rw [fz_o (by omega)])), SH_cg a8 (fun a j z => by repeat (first | rfl | rw [up_ne (by omega)] | rw [rem_o hA (by omega)] | rw [rmM_o (by omega)] | rw [fl_o (by omega)] | rw [tks_o (by omega)] | rw [cp_o (by omega)] | rw [rst_o (by omega)] | rw [rnw_o (by omega)] | rw [putl_o (by omega)] | rw [fz_o (by omega)])) (fun a j z => by repeat (first | rfl | rw [up_ne (by omega)] | rw [rem_o hA (by omega)] | rw [rmM_o (by omega)] | rw [fl_o (by omega)] | rw [tks_o (by omega)] | rw [cp_o (by omega)] | rw [rst_o (by omega)] | rw [rnw_o (by omega)] | rw [putl_o (by omega)] | rw [fz_o (by omega)]))⟩
  · rw [e233]; exact ⟨PA_cg a21 (PBB hB) (fun a j z => by repeat (first | rfl | rw [up_ne (by omega)] | rw [rem_o hA (by omega)] | rw [rmM_o (by omega)] | rw [fl_o (by omega)] | rw [tks_o (by omega)] | rw [cp_o (by omega)] | rw [rst_o (by omega)] | rw [rnw_o (by omega)] | rw [putl_o (by omega)] | rw [fz_o (by omega)])), a22, a23, a24⟩
  · rw [e233]; exact ⟨WY_cg a31 n0.2 (fun a j z => by repeat (first | rfl | rw [up_ne (by omega)] | rw [rem_o hA (by omega)] | rw [rmM_o (by omega)] | rw [fl_o (by omega)] | rw [tks_o (by omega)] | rw [cp_o (by omega)] | rw [rst_o (by omega)] | rw [rnw_o (by omega)] | rw [putl_o (by omega)] | rw [fz_o (by omega)])) (fun j => by repeat (first | rfl | rw [up_ne (by omega)] | rw [rem_o hA (by omega)] | rw [rmM_o (by omega)] | rw [fl_o (by omega)] | rw [tks_o (by omega)] | rw [cp_o (by omega)] | rw [rst_o (by omega)] | rw [rnw_o (by omega)] | rw [putl_o (by omega)] | rw [fz_o (by omega)])), TRI_cg a32 (fun j => by repeat (first | rfl | rw [up_ne (by omega)] | rw [rem_o hA (by omega)] | rw [rmM_o (by omega)] | rw [fl_o (by omega)] | rw [tks_o (by omega)] | rw [cp_o (by omega)] | rw [rst_o (by omega)] | rw [rnw_o (by omega)] | rw [putl_o (by omega)] | rw [fz_o (by omega)])), WB_cg a33 (fun j => by repeat (first | rfl | rw [up_ne (by omega)] | rw [rem_o hA (by omega)] | rw [rmM_o (by omega)] | rw [fl_o (by omega)] | rw [tks_o (by omega)] | rw [cp_o (by omega)] | rw [rst_o (by omega)] | rw [rnw_o (by omega)] | rw [putl_o (by omega)] | rw [fz_o (by omega)]))⟩
theorem s_forget (hA : Bd A) (hB : Bd B) (h : IV A B) : (w_X10_forget A).1 = (w_X11_forget B).1 ∧ IV (w_X10_forget A).2 (w_X11_forget B).2 := by
  have n0 : 0 ≤ B 233 0 ∧ B 233 0 ≤ 7 := hB 233 0
  have nn := iv_n h
  have st := iv_s h
  have t1 := h.1.1
  unfold w_X10_forget w_X11_forget
  refine ⟨h.2.2.2.2.2.2.1.1, ?_⟩
  show IV (mx_up A 81 0 0) (mx_up B 232 11 0)
  obtain ⟨a1, ⟨a21, a22, a23, a24⟩, ⟨a31, a32, a33⟩, a4, a5, a6, a7, a8⟩ := h
  have e233 : (mx_up B 232 11 0) 233 = B 233 := funext fun j => by repeat (first | rfl | rw [up_ne (by omega)] | rw [rem_o hA (by omega)] | rw [rmM_o (by omega)] | rw [fl_o (by omega)] | rw [tks_o (by omega)] | rw [cp_o (by omega)] | rw [rst_o (by omega)] | rw [rnw_o (by omega)] | rw [putl_o (by omega)] | rw [fz_o (by omega)])
  refine ⟨TX_cg a1 (fun a j z => by repeat (first | rfl | rw [up_ne (by omega)] | rw [rem_o hA (by omega)] | rw [rmM_o (by omega)] | rw [fl_o (by omega)] | rw [tks_o (by omega)] | rw [cp_o (by omega)] | rw [rst_o (by omega)] | rw [rnw_o (by omega)] | rw [putl_o (by omega)] | rw [fz_o (by omega)])) (fun a j z => by repeat (first | rfl | rw [up_ne (by omega)] | rw [rem_o hA (by omega)] | rw [rmM_o (by omega)] | rw [fl_o (by omega)] | rw [tks_o (by omega)] | rw [cp_o (by omega)] | rw [rst_o (by omega)] | rw [rnw_o (by omega)] | rw [putl_o (by omega)] | rw [fz_o (by omega)])), ?_, ?_, NW_cg a4 n0 (fun a j z => by repeat (first | rfl | rw [up_ne (by omega)] | rw [rem_o hA (by omega)] | rw [rmM_o (by omega)] | rw [fl_o (by omega)] | rw [tks_o (by omega)] | rw [cp_o (by omega)] | rw [rst_o (by omega)] | rw [rnw_o (by omega)] | rw [putl_o (by omega)] | rw [fz_o (by omega)])) (fun a j z => by repeat (first | rfl | rw [up_ne (by omega)] | rw [rem_o hA (by omega)] | rw [rmM_o (by omega)] | rw [fl_o (by omega)] | rw [tks_o (by omega)] | rw [cp_o (by omega)] | rw [rst_o (by omega)] | rw [rnw_o (by omega)] | rw [putl_o (by omega)] | rw [fz_o (by omega)])), PS_cg a5 n0 (fun a j z => by repeat (first | rfl | rw [up_ne (by omega)] | rw [rem_o hA (by omega)] | rw [rmM_o (by omega)] | rw [fl_o (by omega)] | rw [tks_o (by omega)] | rw [cp_o (by omega)] | rw [rst_o (by omega)] | rw [rnw_o (by omega)] | rw [putl_o (by omega)] | rw [fz_o (by omega)])) (fun a j z => by repeat (first | rfl | rw [up_ne (by omega)] | rw [rem_o hA (by omega)] | rw [rmM_o (by omega)] | rw [fl_o (by omega)] | rw [tks_o (by omega)] | rw [cp_o (by omega)] | rw [rst_o (by omega)] | rw [rnw_o (by omega)] | rw [putl_o (by omega)] | rw [fz_o (by omega)])), KP_cg a6 n0 (fun a j z => by repeat (first | rfl | rw [up_ne (by omega)] | rw [rem_o hA (by omega)] | rw [rmM_o (by omega)] | rw [fl_o (by omega)] | rw [tks_o (by omega)] | rw [cp_o (by omega)] | rw [rst_o (by omega)] | rw [rnw_o (by omega)] | rw [putl_o (by omega)] | rw [fz_o (by omega)])) (fun a j z => by repeat (first | rfl | rw [up_ne (by omega)] | rw [rem_o hA (by omega)] | rw [rmM_o (by omega)] | rw [fl_o (by omega)] | rw [tks_o (by omega)] | rw [cp_o (by omega)] | rw [rst_o (by omega)] | rw [rnw_o (by omega)] | rw [putl_o (by omega)] | rw [fz_o (by omega)])), ⟨rfl, fun s s0 s1 => by have s1 : s < 0 := s1; omega⟩, SH_cg a8 (fun a j z => by repeat (first | rfl | rw [up_ne (by omega)] | rw [rem_o hA (by omega)] | rw [rmM_o (by omega)] | rw [fl_o (by omega)] | rw [tks_o (by omega)] | rw [cp_o (by omega)] | rw [rst_o (by omega)] | rw [rnw_o (by omega)] | rw [putl_o (by omega)] | rw [fz_o (by omega)])) (fun a j z => by repeat (first | rfl | rw [up_ne (by omega)] | rw [rem_o hA (by omega)] | rw [rmM_o (by omega)] | rw [fl_o (by omega)] | rw [tks_o (by omega)] | rw [cp_o (by omega)] | rw [rst_o (by omega)] | rw [rnw_o (by omega)] | rw [putl_o (by omega)] | rw [fz_o (by omega)]))⟩
  · rw [e233]; exact ⟨PA_cg a21 (PBB hB) (fun a j z => by repeat (first | rfl | rw [up_ne (by omega)] | rw [rem_o hA (by omega)] | rw [rmM_o (by omega)] | rw [fl_o (by omega)] | rw [tks_o (by omega)] | rw [cp_o (by omega)] | rw [rst_o (by omega)] | rw [rnw_o (by omega)] | rw [putl_o (by omega)] | rw [fz_o (by omega)])), a22, a23, a24⟩
  · rw [e233]; exact ⟨WY_cg a31 n0.2 (fun a j z => by repeat (first | rfl | rw [up_ne (by omega)] | rw [rem_o hA (by omega)] | rw [rmM_o (by omega)] | rw [fl_o (by omega)] | rw [tks_o (by omega)] | rw [cp_o (by omega)] | rw [rst_o (by omega)] | rw [rnw_o (by omega)] | rw [putl_o (by omega)] | rw [fz_o (by omega)])) (fun j => by repeat (first | rfl | rw [up_ne (by omega)] | rw [rem_o hA (by omega)] | rw [rmM_o (by omega)] | rw [fl_o (by omega)] | rw [tks_o (by omega)] | rw [cp_o (by omega)] | rw [rst_o (by omega)] | rw [rnw_o (by omega)] | rw [putl_o (by omega)] | rw [fz_o (by omega)])), TRI_cg a32 (fun j => by repeat (first | rfl | rw [up_ne (by omega)] | rw [rem_o hA (by omega)] | rw [rmM_o (by omega)] | rw [fl_o (by omega)] | rw [tks_o (by omega)] | rw [cp_o (by omega)] | rw [rst_o (by omega)] | rw [rnw_o (by omega)] | rw [putl_o (by omega)] | rw [fz_o (by omega)])), WB_cg a33 (fun j => by repeat (first | rfl | rw [up_ne (by omega)] | rw [rem_o hA (by omega)] | rw [rmM_o (by omega)] | rw [fl_o (by omega)] | rw [tks_o (by omega)] | rw [cp_o (by omega)] | rw [rst_o (by omega)] | rw [rnw_o (by omega)] | rw [putl_o (by omega)] | rw [fz_o (by omega)]))⟩
theorem s_seen (hA : Bd A) (hB : Bd B) (h : IV A B) {f n m : Int} : (w_X10_seen A f n m).1 = (w_X11_seen B f n m).1 ∧ IV (w_X10_seen A f n m).2 (w_X11_seen B f n m).2 := by
  have n0 : 0 ≤ B 233 0 ∧ B 233 0 ≤ 7 := hB 233 0
  have nn := iv_n h
  have st := iv_s h
  have t1 := h.1.1
  have g := h.2.2.2.2.2.2.1
  have b81 : 0 ≤ A 81 0 ∧ A 81 0 ≤ 6 := hA 81 0
  unfold w_X10_seen w_X11_seen
  by_cases hf : 0 ≤ f ∧ f < A 25 0
  · rw [if_pos hf, if_pos (show 0 ≤ f ∧ f ≤ B 233 0 - 1 by omega)]
    by_cases c0 : 0 ≤ n ∧ n ≤ 8
    · rw [if_neg (by omega), if_neg (by omega), if_pos c0]
      by_cases c1 : 0 ≤ m ∧ m ≤ 60
      · rw [if_neg (by omega), if_neg (by omega), if_pos c1]
        by_cases e : B 232 11 = 6
        · rw [if_neg (by have := g.1; omega), if_pos e]; exact ⟨rfl, h⟩
        · have g1 := g.1
          rw [if_pos (by omega), if_neg e]
          refine ⟨by show A 81 0 + 1 = B 232 11 + 1; omega, ?_⟩
          show IV (mx_up (mx_up (mx_up (mx_up A 82 (A 81 0) f) 83 (A 81 0) n) 84 (A 81 0) m) 81 0 (A 81 0 + 1)) (mx_up (mx_up (mx_up (mx_up B 241 (3 * (B 232 11)) f) 241 ((3 * (B 232 11)) + 1) n) 241 ((3 * (B 232 11)) + 2) m) 232 11 ((B 232 11) + 1))
          obtain ⟨a1, ⟨a21, a22, a23, a24⟩, ⟨a31, a32, a33⟩, a4, a5, a6, a7, a8⟩ := h
          have e233 : (mx_up (mx_up (mx_up (mx_up B 241 (3 * (B 232 11)) f) 241 ((3 * (B 232 11)) + 1) n) 241 ((3 * (B 232 11)) + 2) m) 232 11 ((B 232 11) + 1)) 233 = B 233 := funext fun j => by repeat (first | rfl | rw [up_ne (by omega)] | rw [rem_o hA (by omega)] | rw [rmM_o (by omega)] | rw [fl_o (by omega)] | rw [tks_o (by omega)] | rw [cp_o (by omega)] | rw [rst_o (by omega)] | rw [rnw_o (by omega)] | rw [putl_o (by omega)] | rw [fz_o (by omega)])
          refine ⟨TX_cg a1 (fun a j z => by repeat (first | rfl | rw [up_ne (by omega)] | rw [rem_o hA (by omega)] | rw [rmM_o (by omega)] | rw [fl_o (by omega)] | rw [tks_o (by omega)] | rw [cp_o (by omega)] | rw [rst_o (by omega)] | rw [rnw_o (by omega)] | rw [putl_o (by omega)] | rw [fz_o (by omega)])) (fun a j z => by repeat (first | rfl | rw [up_ne (by omega)] | rw [rem_o hA (by omega)] | rw [rmM_o (by omega)] | rw [fl_o (by omega)] | rw [tks_o (by omega)] | rw [cp_o (by omega)] | rw [rst_o (by omega)] | rw [rnw_o (by omega)] | rw [putl_o (by omega)] | rw [fz_o (by omega)])), ?_, ?_, NW_cg a4 n0 (fun a j z => by repeat (first | rfl | rw [up_ne (by omega)] | rw [rem_o hA (by omega)] | rw [rmM_o (by omega)] | rw [fl_o (by omega)] | rw [tks_o (by omega)] | rw [cp_o (by omega)] | rw [rst_o (by omega)] | rw [rnw_o (by omega)] | rw [putl_o (by omega)] | rw [fz_o (by omega)])) (fun a j z => by repeat (first | rfl | rw [up_ne (by omega)] | rw [rem_o hA (by omega)] | rw [rmM_o (by omega)] | rw [fl_o (by omega)] | rw [tks_o (by omega)] | rw [cp_o (by omega)] | rw [rst_o (by omega)] | rw [rnw_o (by omega)] | rw [putl_o (by omega)] | rw [fz_o (by omega)])), PS_cg a5 n0 (fun a j z => by repeat (first | rfl | rw [up_ne (by omega)] | rw [rem_o hA (by omega)] | rw [rmM_o (by omega)] | rw [fl_o (by omega)] | rw [tks_o (by omega)] | rw [cp_o (by omega)] | rw [rst_o (by omega)] | rw [rnw_o (by omega)] | rw [putl_o (by omega)] | rw [fz_o (by omega)])) (fun a j z => by repeat (first | rfl | rw [up_ne (by omega)] | rw [rem_o hA (by omega)] | rw [rmM_o (by omega)] | rw [fl_o (by omega)] | rw [tks_o (by omega)] | rw [cp_o (by omega)] | rw [rst_o (by omega)] | rw [rnw_o (by omega)] | rw [putl_o (by omega)] | rw [fz_o (by omega)])), KP_cg a6 n0 (fun a j z => by repeat (first | rfl | rw [up_ne (by omega)] | rw [rem_o hA (by omega)] | rw [rmM_o (by omega)] | rw [fl_o (by omega)] | rw [tks_o (by omega)] | rw [cp_o (by omega)] | rw [rst_o (by omega)] | rw [rnw_o (by omega)] | rw [putl_o (by omega)] | rw [fz_o (by omega)])) (fun a j z => by repeat (first | rfl | rw [up_ne (by omega)] | rw [rem_o hA (by omega)] | rw [rmM_o (by omega)] | rw [fl_o (by omega)] | rw [tks_o (by omega)] | rw [cp_o (by omega)] | rw [rst_o (by omega)] | rw [rnw_o (by omega)] | rw [putl_o (by omega)] | rw [fz_o (by omega)])), ⟨by show A 81 0 + 1 = B 232 11 + 1; omega, fun s s0 s1 => by
                have s1 : s < B 232 11 + 1 := s1
                rw [← g1]
                by_cases z : s = A 81 0
                · rw [z]
                  refine ⟨?_, ?_, ?_⟩
                  · rw [up_ne (by omega), up_ne (by omega), up_ne (by omega), up_eq, up_ne (by omega), up_ne (by omega), up_ne (by omega), up_eq]
                  · rw [up_ne (by omega), up_ne (by omega), up_eq, up_ne (by omega), up_ne (by omega), up_eq]
                  · rw [up_ne (by omega), up_eq, up_ne (by omega), up_eq]
                · have q := g.2 s s0 (by omega)
                  refine ⟨?_, ?_, ?_⟩
                  · rw [up_ne (by omega), up_ne (by omega), up_ne (by omega), up_ne (by omega), up_ne (by omega), up_ne (by omega), up_ne (by omega), up_ne (by omega)]; exact q.1
                  · rw [up_ne (by omega), up_ne (by omega), up_ne (by omega), up_ne (by omega), up_ne (by omega), up_ne (by omega), up_ne (by omega), up_ne (by omega)]; exact q.2.1
                  · rw [up_ne (by omega), up_ne (by omega), up_ne (by omega), up_ne (by omega), up_ne (by omega), up_ne (by omega), up_ne (by omega), up_ne (by omega)]; exact q.2.2⟩, SH_cg a8 (fun a j z => by repeat (first | rfl | rw [up_ne (by omega)] | rw [rem_o hA (by omega)] | rw [rmM_o (by omega)] | rw [fl_o (by omega)] | rw [tks_o (by omega)] | rw [cp_o (by omega)] | rw [rst_o (by omega)] | rw [rnw_o (by omega)] | rw [putl_o (by omega)] | rw [fz_o (by omega)])) (fun a j z => by repeat (first | rfl | rw [up_ne (by omega)] | rw [rem_o hA (by omega)] | rw [rmM_o (by omega)] | rw [fl_o (by omega)] | rw [tks_o (by omega)] | rw [cp_o (by omega)] | rw [rst_o (by omega)] | rw [rnw_o (by omega)] | rw [putl_o (by omega)] | rw [fz_o (by omega)]))⟩
          · rw [e233]; exact ⟨PA_cg a21 (PBB hB) (fun a j z => by repeat (first | rfl | rw [up_ne (by omega)] | rw [rem_o hA (by omega)] | rw [rmM_o (by omega)] | rw [fl_o (by omega)] | rw [tks_o (by omega)] | rw [cp_o (by omega)] | rw [rst_o (by omega)] | rw [rnw_o (by omega)] | rw [putl_o (by omega)] | rw [fz_o (by omega)])), a22, a23, a24⟩
          · rw [e233]; exact ⟨WY_cg a31 n0.2 (fun a j z => by repeat (first | rfl | rw [up_ne (by omega)] | rw [rem_o hA (by omega)] | rw [rmM_o (by omega)] | rw [fl_o (by omega)] | rw [tks_o (by omega)] | rw [cp_o (by omega)] | rw [rst_o (by omega)] | rw [rnw_o (by omega)] | rw [putl_o (by omega)] | rw [fz_o (by omega)])) (fun j => by repeat (first | rfl | rw [up_ne (by omega)] | rw [rem_o hA (by omega)] | rw [rmM_o (by omega)] | rw [fl_o (by omega)] | rw [tks_o (by omega)] | rw [cp_o (by omega)] | rw [rst_o (by omega)] | rw [rnw_o (by omega)] | rw [putl_o (by omega)] | rw [fz_o (by omega)])), TRI_cg a32 (fun j => by repeat (first | rfl | rw [up_ne (by omega)] | rw [rem_o hA (by omega)] | rw [rmM_o (by omega)] | rw [fl_o (by omega)] | rw [tks_o (by omega)] | rw [cp_o (by omega)] | rw [rst_o (by omega)] | rw [rnw_o (by omega)] | rw [putl_o (by omega)] | rw [fz_o (by omega)])), WB_cg a33 (fun j => by repeat (first | rfl | rw [up_ne (by omega)] | rw [rem_o hA (by omega)] | rw [rmM_o (by omega)] | rw [fl_o (by omega)] | rw [tks_o (by omega)] | rw [cp_o (by omega)] | rw [rst_o (by omega)] | rw [rnw_o (by omega)] | rw [putl_o (by omega)] | rw [fz_o (by omega)]))⟩
      · rw [if_neg c1]
        by_cases k0 : m < 0
        · rw [if_pos k0]; exact ⟨rfl, h⟩
        · rw [if_neg k0, if_pos (by omega)]; exact ⟨rfl, h⟩
    · rw [if_neg c0]
      by_cases k0 : n < 0
      · rw [if_pos k0]; exact ⟨rfl, h⟩
      · rw [if_neg k0, if_pos (by omega)]; exact ⟨rfl, h⟩
  · rw [if_neg hf, if_neg (by omega)]; exact ⟨rfl, h⟩
theorem iv_l (h : IV A B) {f : Int} (f0 : 0 ≤ f) (f1 : f < B 233 0) : A 60 f = B 236 f := h.2.2.2.1.1 f f0 f1
theorem s_through (hA : Bd A) (hB : Bd B) (h : IV A B) {g : Int} : (w_X10_through A g).1 = (w_X11_through B g).1 ∧ IV (w_X10_through A g).2 (w_X11_through B g).2 := by
  have n0 : 0 ≤ B 233 0 ∧ B 233 0 ≤ 7 := hB 233 0
  have nn := iv_n h
  have st := iv_s h
  have t1 := h.1.1
  unfold w_X10_through w_X11_through
  by_cases hg : 0 ≤ g ∧ g < A 25 6
  · have gt := h.2.1.1.2.2.1 g hg.1 (by omega)
    have ge := h.2.1.2.1 g hg.1 (by omega)
    have b38 : 0 ≤ A 38 g ∧ A 38 g ≤ 6 := hA 38 g
    rw [if_pos hg, if_pos (show 0 ≤ g ∧ g ≤ B 233 85 - 1 by omega)]
    by_cases c1 : B 236 11 = B 233 (86 + g)
    · have ho : v_X3_otherSide A g (A 59 4) = B 233 (95 + g) := by unfold v_X3_otherSide; rw [if_pos (by omega)]; exact gt.2.1
      rw [if_pos c1, if_neg (by omega)]
      by_cases c2 : B 233 186 < B 236 7 + B 233 (104 + g)
      · rw [if_pos c2, if_pos (by omega)]; exact ⟨rfl, h⟩
      · rw [if_neg c2, if_neg (by omega)]
        refine ⟨ho, ?_⟩
        show IV (mx_up (mx_up (rem A) 59 4 (v_X3_otherSide A g (A 59 4))) 59 2 ((A 59 2) + (A 40 g))) (mx_up (mx_up (rmM B) 236 11 (B 233 (95 + g))) 236 7 ((B 236 7) + (B 233 (104 + g))))
        refine IV_do hA hB h (fun a j z => by repeat (first | rfl | rw [up_ne (by omega)] | rw [rem_o hA (by omega)] | rw [rmM_o (by omega)] | rw [fl_o (by omega)] | rw [tks_o (by omega)] | rw [cp_o (by omega)] | rw [rst_o (by omega)] | rw [rnw_o (by omega)] | rw [putl_o (by omega)] | rw [fz_o (by omega)])) (fun a j z => by repeat (first | rfl | rw [up_ne (by omega)] | rw [rem_o hA (by omega)] | rw [rmM_o (by omega)] | rw [fl_o (by omega)] | rw [tks_o (by omega)] | rw [cp_o (by omega)] | rw [rst_o (by omega)] | rw [rnw_o (by omega)] | rw [putl_o (by omega)] | rw [fz_o (by omega)])) ?_
        unfold NWr
        rw [show (mx_up (mx_up (rmM B) 236 11 (B 233 (95 + g))) 236 7 ((B 236 7) + (B 233 (104 + g)))) 233 0 = B 233 0 from by repeat (first | rfl | rw [up_ne (by omega)] | rw [rem_o hA (by omega)] | rw [rmM_o (by omega)] | rw [fl_o (by omega)] | rw [tks_o (by omega)] | rw [cp_o (by omega)] | rw [rst_o (by omega)] | rw [rnw_o (by omega)] | rw [putl_o (by omega)] | rw [fz_o (by omega)])]
        refine ⟨fun f f0 f1 => ?_, fun f f0 f1 f2 => ?_, ⟨?_, ?_, ?_, ?_, ?_⟩, ?_⟩
        · show (mx_up (mx_up (rem A) 59 4 (v_X3_otherSide A g (A 59 4))) 59 2 ((A 59 2) + (A 40 g))) 60 f = (mx_up (mx_up (rmM B) 236 11 (B 233 (95 + g))) 236 7 ((B 236 7) + (B 233 (104 + g)))) 236 f
          (repeat (first | rfl | rw [up_ne (by omega)] | rw [rem_o hA (by omega)] | rw [rmM_o (by omega)] | rw [fl_o (by omega)] | rw [tks_o (by omega)] | rw [cp_o (by omega)] | rw [rst_o (by omega)] | rw [rnw_o (by omega)] | rw [putl_o (by omega)] | rw [fz_o (by omega)])); exact (iv_l h f0 f1)
        · show (mx_up (mx_up (rmM B) 236 11 (B 233 (95 + g))) 236 7 ((B 236 7) + (B 233 (104 + g)))) 236 f = 0
          (repeat (first | rfl | rw [up_ne (by omega)] | rw [rem_o hA (by omega)] | rw [rmM_o (by omega)] | rw [fl_o (by omega)] | rw [tks_o (by omega)] | rw [cp_o (by omega)] | rw [rst_o (by omega)] | rw [rnw_o (by omega)] | rw [putl_o (by omega)] | rw [fz_o (by omega)])); exact h.2.2.2.1.2.1 f f0 f1 f2
        · show (mx_up (mx_up (rem A) 59 4 (v_X3_otherSide A g (A 59 4))) 59 2 ((A 59 2) + (A 40 g))) 59 1 = (mx_up (mx_up (rmM B) 236 11 (B 233 (95 + g))) 236 7 ((B 236 7) + (B 233 (104 + g)))) 236 9
          (repeat (first | rfl | rw [up_eq] | rw [up_ne (by omega)] | rw [rem_o hA (by omega)] | rw [rmM_o (by omega)] | rw [fl_o (by omega)] | rw [tks_o (by omega)] | rw [cp_o (by omega)] | rw [rst_o (by omega)])); exact st.1
        · show (mx_up (mx_up (rem A) 59 4 (v_X3_otherSide A g (A 59 4))) 59 2 ((A 59 2) + (A 40 g))) 59 2 = (mx_up (mx_up (rmM B) 236 11 (B 233 (95 + g))) 236 7 ((B 236 7) + (B 233 (104 + g)))) 236 7
          rw [up_eq, up_eq]; rw [st.2.1, gt.2.2]
        · show (mx_up (mx_up (rem A) 59 4 (v_X3_otherSide A g (A 59 4))) 59 2 ((A 59 2) + (A 40 g))) 59 3 = (mx_up (mx_up (rmM B) 236 11 (B 233 (95 + g))) 236 7 ((B 236 7) + (B 233 (104 + g)))) 236 8
          (repeat (first | rfl | rw [up_eq] | rw [up_ne (by omega)] | rw [rem_o hA (by omega)] | rw [rmM_o (by omega)] | rw [fl_o (by omega)] | rw [tks_o (by omega)] | rw [cp_o (by omega)] | rw [rst_o (by omega)])); exact st.2.2.1
        · show (mx_up (mx_up (rem A) 59 4 (v_X3_otherSide A g (A 59 4))) 59 2 ((A 59 2) + (A 40 g))) 59 4 = (mx_up (mx_up (rmM B) 236 11 (B 233 (95 + g))) 236 7 ((B 236 7) + (B 233 (104 + g)))) 236 11
          rw [up_ne (by omega), up_eq, up_ne (by omega), up_eq]; exact ho
        · show (mx_up (mx_up (rem A) 59 4 (v_X3_otherSide A g (A 59 4))) 59 2 ((A 59 2) + (A 40 g))) 59 5 = (mx_up (mx_up (rmM B) 236 11 (B 233 (95 + g))) 236 7 ((B 236 7) + (B 233 (104 + g)))) 236 10
          (repeat (first | rfl | rw [up_eq] | rw [up_ne (by omega)] | rw [rem_o hA (by omega)] | rw [rmM_o (by omega)] | rw [fl_o (by omega)] | rw [tks_o (by omega)] | rw [cp_o (by omega)] | rw [rst_o (by omega)])); exact st.2.2.2.2
        · show (mx_up (mx_up (rmM B) 236 11 (B 233 (95 + g))) 236 7 ((B 236 7) + (B 233 (104 + g)))) 236 11 < _ ∨ _ ∧ (mx_up (mx_up (rmM B) 236 11 (B 233 (95 + g))) 236 7 ((B 236 7) + (B 233 (104 + g)))) 236 11 = 0
          rw [up_ne (by omega), up_eq]; exact Or.inl (by omega)
    · rw [if_neg c1]
      by_cases c3 : B 236 11 = B 233 (95 + g)
      · have ho : v_X3_otherSide A g (A 59 4) = B 233 (86 + g) := by unfold v_X3_otherSide; rw [if_neg (by omega), if_pos (by omega)]; exact gt.1
        rw [if_pos c3, if_neg (by omega)]
        by_cases c2 : B 233 186 < B 236 7 + B 233 (104 + g)
        · rw [if_pos c2, if_pos (by omega)]; exact ⟨rfl, h⟩
        · rw [if_neg c2, if_neg (by omega)]
          refine ⟨ho, ?_⟩
          show IV (mx_up (mx_up (rem A) 59 4 (v_X3_otherSide A g (A 59 4))) 59 2 ((A 59 2) + (A 40 g))) (mx_up (mx_up (rmM B) 236 11 (B 233 (86 + g))) 236 7 ((B 236 7) + (B 233 (104 + g))))
          refine IV_do hA hB h (fun a j z => by repeat (first | rfl | rw [up_ne (by omega)] | rw [rem_o hA (by omega)] | rw [rmM_o (by omega)] | rw [fl_o (by omega)] | rw [tks_o (by omega)] | rw [cp_o (by omega)] | rw [rst_o (by omega)] | rw [rnw_o (by omega)] | rw [putl_o (by omega)] | rw [fz_o (by omega)])) (fun a j z => by repeat (first | rfl | rw [up_ne (by omega)] | rw [rem_o hA (by omega)] | rw [rmM_o (by omega)] | rw [fl_o (by omega)] | rw [tks_o (by omega)] | rw [cp_o (by omega)] | rw [rst_o (by omega)] | rw [rnw_o (by omega)] | rw [putl_o (by omega)] | rw [fz_o (by omega)])) ?_
          unfold NWr
          rw [show (mx_up (mx_up (rmM B) 236 11 (B 233 (86 + g))) 236 7 ((B 236 7) + (B 233 (104 + g)))) 233 0 = B 233 0 from by repeat (first | rfl | rw [up_ne (by omega)] | rw [rem_o hA (by omega)] | rw [rmM_o (by omega)] | rw [fl_o (by omega)] | rw [tks_o (by omega)] | rw [cp_o (by omega)] | rw [rst_o (by omega)] | rw [rnw_o (by omega)] | rw [putl_o (by omega)] | rw [fz_o (by omega)])]
          refine ⟨fun f f0 f1 => ?_, fun f f0 f1 f2 => ?_, ⟨?_, ?_, ?_, ?_, ?_⟩, ?_⟩
          · show (mx_up (mx_up (rem A) 59 4 (v_X3_otherSide A g (A 59 4))) 59 2 ((A 59 2) + (A 40 g))) 60 f = (mx_up (mx_up (rmM B) 236 11 (B 233 (86 + g))) 236 7 ((B 236 7) + (B 233 (104 + g)))) 236 f
            (repeat (first | rfl | rw [up_ne (by omega)] | rw [rem_o hA (by omega)] | rw [rmM_o (by omega)] | rw [fl_o (by omega)] | rw [tks_o (by omega)] | rw [cp_o (by omega)] | rw [rst_o (by omega)] | rw [rnw_o (by omega)] | rw [putl_o (by omega)] | rw [fz_o (by omega)])); exact (iv_l h f0 f1)
          · show (mx_up (mx_up (rmM B) 236 11 (B 233 (86 + g))) 236 7 ((B 236 7) + (B 233 (104 + g)))) 236 f = 0
            (repeat (first | rfl | rw [up_ne (by omega)] | rw [rem_o hA (by omega)] | rw [rmM_o (by omega)] | rw [fl_o (by omega)] | rw [tks_o (by omega)] | rw [cp_o (by omega)] | rw [rst_o (by omega)] | rw [rnw_o (by omega)] | rw [putl_o (by omega)] | rw [fz_o (by omega)])); exact h.2.2.2.1.2.1 f f0 f1 f2
          · show (mx_up (mx_up (rem A) 59 4 (v_X3_otherSide A g (A 59 4))) 59 2 ((A 59 2) + (A 40 g))) 59 1 = (mx_up (mx_up (rmM B) 236 11 (B 233 (86 + g))) 236 7 ((B 236 7) + (B 233 (104 + g)))) 236 9
            (repeat (first | rfl | rw [up_eq] | rw [up_ne (by omega)] | rw [rem_o hA (by omega)] | rw [rmM_o (by omega)] | rw [fl_o (by omega)] | rw [tks_o (by omega)] | rw [cp_o (by omega)] | rw [rst_o (by omega)])); exact st.1
          · show (mx_up (mx_up (rem A) 59 4 (v_X3_otherSide A g (A 59 4))) 59 2 ((A 59 2) + (A 40 g))) 59 2 = (mx_up (mx_up (rmM B) 236 11 (B 233 (86 + g))) 236 7 ((B 236 7) + (B 233 (104 + g)))) 236 7
            rw [up_eq, up_eq]; rw [st.2.1, gt.2.2]
          · show (mx_up (mx_up (rem A) 59 4 (v_X3_otherSide A g (A 59 4))) 59 2 ((A 59 2) + (A 40 g))) 59 3 = (mx_up (mx_up (rmM B) 236 11 (B 233 (86 + g))) 236 7 ((B 236 7) + (B 233 (104 + g)))) 236 8
            (repeat (first | rfl | rw [up_eq] | rw [up_ne (by omega)] | rw [rem_o hA (by omega)] | rw [rmM_o (by omega)] | rw [fl_o (by omega)] | rw [tks_o (by omega)] | rw [cp_o (by omega)] | rw [rst_o (by omega)])); exact st.2.2.1
          · show (mx_up (mx_up (rem A) 59 4 (v_X3_otherSide A g (A 59 4))) 59 2 ((A 59 2) + (A 40 g))) 59 4 = (mx_up (mx_up (rmM B) 236 11 (B 233 (86 + g))) 236 7 ((B 236 7) + (B 233 (104 + g)))) 236 11
            rw [up_ne (by omega), up_eq, up_ne (by omega), up_eq]; exact ho
          · show (mx_up (mx_up (rem A) 59 4 (v_X3_otherSide A g (A 59 4))) 59 2 ((A 59 2) + (A 40 g))) 59 5 = (mx_up (mx_up (rmM B) 236 11 (B 233 (86 + g))) 236 7 ((B 236 7) + (B 233 (104 + g)))) 236 10
            (repeat (first | rfl | rw [up_eq] | rw [up_ne (by omega)] | rw [rem_o hA (by omega)] | rw [rmM_o (by omega)] | rw [fl_o (by omega)] | rw [tks_o (by omega)] | rw [cp_o (by omega)] | rw [rst_o (by omega)])); exact st.2.2.2.2
          · show (mx_up (mx_up (rmM B) 236 11 (B 233 (86 + g))) 236 7 ((B 236 7) + (B 233 (104 + g)))) 236 11 < _ ∨ _ ∧ (mx_up (mx_up (rmM B) 236 11 (B 233 (86 + g))) 236 7 ((B 236 7) + (B 233 (104 + g)))) 236 11 = 0
            rw [up_ne (by omega), up_eq]; exact Or.inl (by omega)
      · have ho : v_X3_otherSide A g (A 59 4) = -1 := by unfold v_X3_otherSide; rw [if_neg (by omega), if_neg (by omega)]
        rw [if_neg c3, if_pos ho]; exact ⟨rfl, h⟩
  · rw [if_neg hg, if_neg (by omega)]; exact ⟨rfl, h⟩
theorem s_read (hA : Bd A) (hB : Bd B) (h : IV A B) : (w_X10_read A).1 = (w_X11_read B).1 ∧ IV (w_X10_read A).2 (w_X11_read B).2 := by
  have n0 : 0 ≤ B 233 0 ∧ B 233 0 ≤ 7 := hB 233 0
  have nn := iv_n h
  have st := iv_s h
  have t1 := h.1.1
  have ia := iv_a h
  have b4 : 0 ≤ B 236 11 ∧ B 236 11 ≤ 6 := hB 236 11
  unfold w_X10_read w_X11_read
  by_cases n1 : B 233 0 = 0
  · rw [if_pos n1, if_neg (by omega)]; exact ⟨rfl, h⟩
  have r := iv_f h (f := B 236 11) b4.1 (by omega)
  have em : mins ((rmM B) 233 (1 + (B 236 11))) (pop ((rmM B) 236 (0 + (B 236 11)))) = mins (B 233 (1 + B 236 11)) (pop (B 236 (0 + B 236 11))) := by rw [rmM_o (by omega), rmM_o (by omega)]
  have ea : A 26 (A 59 4) = B 233 (1 + B 236 11) := by rw [st.2.2.2.1]; exact r.1.1
  have eb : A 60 (A 59 4) = B 236 (0 + B 236 11) := by rw [st.2.2.2.1]; exact r.2.2
  rw [if_neg n1, if_pos (show 0 ≤ A 59 4 ∧ A 59 4 < A 25 0 by omega)]
  have et : tb (A 59 1) (A 59 4) ↔ tb (B 236 9) (B 236 11) := by rw [st.1, st.2.2.2.1]
  by_cases c1 : tb (B 236 9) (B 236 11)
  · rw [if_pos c1, if_pos (et.mpr c1)]; exact ⟨rfl, h⟩
  rw [if_neg c1, if_neg (fun z => c1 (et.mp z))]
  have ec : (A 26 (A 59 4) ≠ 1 ∨ A 59 5 < 5) ↔ (B 233 (1 + B 236 11) ≠ 1 ∨ B 236 10 < 5) := by rw [ea, st.2.2.2.2]
  by_cases c2 : B 233 (1 + B 236 11) ≠ 1 ∨ B 236 10 < 5
  · rw [if_pos c2, if_pos (ec.mpr c2)]
    by_cases c3 : B 233 186 < B 236 7 + mins (B 233 (1 + B 236 11)) (pop (B 236 (0 + B 236 11)))
    · rw [if_pos c3, if_pos (by rw [ea, eb]; omega)]; exact ⟨rfl, h⟩
    · rw [if_neg c3, if_neg (by rw [ea, eb]; omega)]
      refine ⟨by rw [eb], ?_⟩
      show IV (mx_up (mx_up (rem A) 59 2 ((A 59 2) + (mins (A 26 (A 59 4)) (pop (A 60 (A 59 4)))))) 59 1 (mx_or (A 59 1) (mx_shl 1 (A 59 4)))) (mx_up (mx_up (rmM B) 236 7 ((B 236 7) + (mins ((rmM B) 233 (1 + (B 236 11))) (pop ((rmM B) 236 (0 + (B 236 11))))))) 236 9 (mx_or (B 236 9) (mx_shl 1 (B 236 11))))
      refine IV_do hA hB h (fun a j z => by repeat (first | rfl | rw [up_ne (by omega)] | rw [rem_o hA (by omega)] | rw [rmM_o (by omega)] | rw [fl_o (by omega)] | rw [tks_o (by omega)] | rw [cp_o (by omega)] | rw [rst_o (by omega)] | rw [rnw_o (by omega)] | rw [putl_o (by omega)] | rw [fz_o (by omega)])) (fun a j z => by repeat (first | rfl | rw [up_ne (by omega)] | rw [rem_o hA (by omega)] | rw [rmM_o (by omega)] | rw [fl_o (by omega)] | rw [tks_o (by omega)] | rw [cp_o (by omega)] | rw [rst_o (by omega)] | rw [rnw_o (by omega)] | rw [putl_o (by omega)] | rw [fz_o (by omega)])) ?_
      unfold NWr
      rw [show (mx_up (mx_up (rmM B) 236 7 ((B 236 7) + (mins ((rmM B) 233 (1 + (B 236 11))) (pop ((rmM B) 236 (0 + (B 236 11))))))) 236 9 (mx_or (B 236 9) (mx_shl 1 (B 236 11)))) 233 0 = B 233 0 from by repeat (first | rfl | rw [up_ne (by omega)] | rw [rem_o hA (by omega)] | rw [rmM_o (by omega)] | rw [fl_o (by omega)] | rw [tks_o (by omega)] | rw [cp_o (by omega)] | rw [rst_o (by omega)] | rw [rnw_o (by omega)] | rw [putl_o (by omega)] | rw [fz_o (by omega)])]
      refine ⟨fun f f0 f1 => ?_, fun f f0 f1 f2 => ?_, ⟨?_, ?_, ?_, ?_, ?_⟩, ?_⟩
      · show (mx_up (mx_up (rem A) 59 2 ((A 59 2) + (mins (A 26 (A 59 4)) (pop (A 60 (A 59 4)))))) 59 1 (mx_or (A 59 1) (mx_shl 1 (A 59 4)))) 60 f = (mx_up (mx_up (rmM B) 236 7 ((B 236 7) + (mins ((rmM B) 233 (1 + (B 236 11))) (pop ((rmM B) 236 (0 + (B 236 11))))))) 236 9 (mx_or (B 236 9) (mx_shl 1 (B 236 11)))) 236 f
        (repeat (first | rfl | rw [up_ne (by omega)] | rw [rem_o hA (by omega)] | rw [rmM_o (by omega)] | rw [fl_o (by omega)] | rw [tks_o (by omega)] | rw [cp_o (by omega)] | rw [rst_o (by omega)] | rw [rnw_o (by omega)] | rw [putl_o (by omega)] | rw [fz_o (by omega)])); exact (iv_l h f0 f1)
      · show (mx_up (mx_up (rmM B) 236 7 ((B 236 7) + (mins ((rmM B) 233 (1 + (B 236 11))) (pop ((rmM B) 236 (0 + (B 236 11))))))) 236 9 (mx_or (B 236 9) (mx_shl 1 (B 236 11)))) 236 f = 0
        (repeat (first | rfl | rw [up_ne (by omega)] | rw [rem_o hA (by omega)] | rw [rmM_o (by omega)] | rw [fl_o (by omega)] | rw [tks_o (by omega)] | rw [cp_o (by omega)] | rw [rst_o (by omega)] | rw [rnw_o (by omega)] | rw [putl_o (by omega)] | rw [fz_o (by omega)])); exact h.2.2.2.1.2.1 f f0 f1 f2
      · show (mx_up (mx_up (rem A) 59 2 ((A 59 2) + (mins (A 26 (A 59 4)) (pop (A 60 (A 59 4)))))) 59 1 (mx_or (A 59 1) (mx_shl 1 (A 59 4)))) 59 1 = (mx_up (mx_up (rmM B) 236 7 ((B 236 7) + (mins ((rmM B) 233 (1 + (B 236 11))) (pop ((rmM B) 236 (0 + (B 236 11))))))) 236 9 (mx_or (B 236 9) (mx_shl 1 (B 236 11)))) 236 9
        rw [up_eq, up_eq, st.1, st.2.2.2.1]
      · show (mx_up (mx_up (rem A) 59 2 ((A 59 2) + (mins (A 26 (A 59 4)) (pop (A 60 (A 59 4)))))) 59 1 (mx_or (A 59 1) (mx_shl 1 (A 59 4)))) 59 2 = (mx_up (mx_up (rmM B) 236 7 ((B 236 7) + (mins ((rmM B) 233 (1 + (B 236 11))) (pop ((rmM B) 236 (0 + (B 236 11))))))) 236 9 (mx_or (B 236 9) (mx_shl 1 (B 236 11)))) 236 7
        rw [up_ne (by omega), up_eq, up_ne (by omega), up_eq, em, ea, eb, st.2.1]
      · show (mx_up (mx_up (rem A) 59 2 ((A 59 2) + (mins (A 26 (A 59 4)) (pop (A 60 (A 59 4)))))) 59 1 (mx_or (A 59 1) (mx_shl 1 (A 59 4)))) 59 3 = (mx_up (mx_up (rmM B) 236 7 ((B 236 7) + (mins ((rmM B) 233 (1 + (B 236 11))) (pop ((rmM B) 236 (0 + (B 236 11))))))) 236 9 (mx_or (B 236 9) (mx_shl 1 (B 236 11)))) 236 8
        (repeat (first | rfl | rw [up_eq] | rw [up_ne (by omega)] | rw [rem_o hA (by omega)] | rw [rmM_o (by omega)] | rw [fl_o (by omega)] | rw [tks_o (by omega)] | rw [cp_o (by omega)] | rw [rst_o (by omega)])); exact st.2.2.1
      · show (mx_up (mx_up (rem A) 59 2 ((A 59 2) + (mins (A 26 (A 59 4)) (pop (A 60 (A 59 4)))))) 59 1 (mx_or (A 59 1) (mx_shl 1 (A 59 4)))) 59 4 = (mx_up (mx_up (rmM B) 236 7 ((B 236 7) + (mins ((rmM B) 233 (1 + (B 236 11))) (pop ((rmM B) 236 (0 + (B 236 11))))))) 236 9 (mx_or (B 236 9) (mx_shl 1 (B 236 11)))) 236 11
        (repeat (first | rfl | rw [up_eq] | rw [up_ne (by omega)] | rw [rem_o hA (by omega)] | rw [rmM_o (by omega)] | rw [fl_o (by omega)] | rw [tks_o (by omega)] | rw [cp_o (by omega)] | rw [rst_o (by omega)])); exact st.2.2.2.1
      · show (mx_up (mx_up (rem A) 59 2 ((A 59 2) + (mins (A 26 (A 59 4)) (pop (A 60 (A 59 4)))))) 59 1 (mx_or (A 59 1) (mx_shl 1 (A 59 4)))) 59 5 = (mx_up (mx_up (rmM B) 236 7 ((B 236 7) + (mins ((rmM B) 233 (1 + (B 236 11))) (pop ((rmM B) 236 (0 + (B 236 11))))))) 236 9 (mx_or (B 236 9) (mx_shl 1 (B 236 11)))) 236 10
        (repeat (first | rfl | rw [up_eq] | rw [up_ne (by omega)] | rw [rem_o hA (by omega)] | rw [rmM_o (by omega)] | rw [fl_o (by omega)] | rw [tks_o (by omega)] | rw [cp_o (by omega)] | rw [rst_o (by omega)])); exact st.2.2.2.2
      · show (mx_up (mx_up (rmM B) 236 7 ((B 236 7) + (mins ((rmM B) 233 (1 + (B 236 11))) (pop ((rmM B) 236 (0 + (B 236 11))))))) 236 9 (mx_or (B 236 9) (mx_shl 1 (B 236 11)))) 236 11 < _ ∨ _ ∧ (mx_up (mx_up (rmM B) 236 7 ((B 236 7) + (mins ((rmM B) 233 (1 + (B 236 11))) (pop ((rmM B) 236 (0 + (B 236 11))))))) 236 9 (mx_or (B 236 9) (mx_shl 1 (B 236 11)))) 236 11 = 0
        (repeat (first | rfl | rw [up_eq] | rw [up_ne (by omega)] | rw [rem_o hA (by omega)] | rw [rmM_o (by omega)] | rw [fl_o (by omega)] | rw [tks_o (by omega)] | rw [cp_o (by omega)] | rw [rst_o (by omega)])); exact iv_a h
  · rw [if_neg c2, if_neg (fun z => c2 (ec.mp z))]; exact ⟨rfl, h⟩
theorem s_plough (hA : Bd A) (hB : Bd B) (h : IV A B) {f : Int} : (w_X10_plough A f).1 = (w_X11_plough B f).1 ∧ IV (w_X10_plough A f).2 (w_X11_plough B f).2 := by
  have n0 : 0 ≤ B 233 0 ∧ B 233 0 ≤ 7 := hB 233 0
  have nn := iv_n h
  have st := iv_s h
  have t1 := h.1.1
  unfold w_X10_plough w_X11_plough
  by_cases hf : 0 ≤ f ∧ f < A 25 0
  · have r := iv_f h (f := f) hf.1 (by omega)
    have l8 := lf8 hB (f := f) (by omega)
    rw [if_pos hf, if_pos (show 0 ≤ f ∧ f ≤ B 233 0 - 1 by omega), r.2.2]
    by_cases c : pop (B 236 (0 + f)) = 0
    · have c0 : B 236 (0 + f) = 0 := by
        obtain ⟨x, hx⟩ := Int.eq_ofNat_of_zero_le l8.1
        rw [hx] at c l8 ⊢
        have q := pop_n0 x (by omega) c
        rw [q]; rfl
      rw [if_pos c, if_pos c0]; exact ⟨rfl, h⟩
    · rw [if_neg c, if_neg (fun z => c (by rw [z]; exact pop_0))]
      refine ⟨rfl, ?_⟩
      show IV (mx_up (rem A) 60 f 0) (mx_up (rmM B) 236 (0 + f) 0)
      refine IV_do hA hB h (fun a j z => by repeat (first | rfl | rw [up_ne (by omega)] | rw [rem_o hA (by omega)] | rw [rmM_o (by omega)] | rw [fl_o (by omega)] | rw [tks_o (by omega)] | rw [cp_o (by omega)] | rw [rst_o (by omega)] | rw [rnw_o (by omega)] | rw [putl_o (by omega)] | rw [fz_o (by omega)])) (fun a j z => by repeat (first | rfl | rw [up_ne (by omega)] | rw [rem_o hA (by omega)] | rw [rmM_o (by omega)] | rw [fl_o (by omega)] | rw [tks_o (by omega)] | rw [cp_o (by omega)] | rw [rst_o (by omega)] | rw [rnw_o (by omega)] | rw [putl_o (by omega)] | rw [fz_o (by omega)])) ?_
      unfold NWr
      rw [show (mx_up (rmM B) 236 (0 + f) 0) 233 0 = B 233 0 from by repeat (first | rfl | rw [up_ne (by omega)] | rw [rem_o hA (by omega)] | rw [rmM_o (by omega)] | rw [fl_o (by omega)] | rw [tks_o (by omega)] | rw [cp_o (by omega)] | rw [rst_o (by omega)] | rw [rnw_o (by omega)] | rw [putl_o (by omega)] | rw [fz_o (by omega)])]
      refine ⟨fun x f0 f1 => ?_, fun x f0 f1 f2 => ?_, ⟨?_, ?_, ?_, ?_, ?_⟩, ?_⟩
      · show (mx_up (rem A) 60 f 0) 60 x = (mx_up (rmM B) 236 (0 + f) 0) 236 x
        by_cases z : x = f
        · rw [z, Int.zero_add, up_eq, up_eq]
        · rw [up_ne (by omega), up_ne (by omega), rem_o hA (by omega), rmM_o (by omega)]; exact iv_l h f0 f1
      · show (mx_up (rmM B) 236 (0 + f) 0) 236 x = 0
        rw [up_ne (by omega), rmM_o (by omega)]; exact h.2.2.2.1.2.1 x f0 f1 f2
      · show (mx_up (rem A) 60 f 0) 59 1 = (mx_up (rmM B) 236 (0 + f) 0) 236 9
        (repeat (first | rfl | rw [up_eq] | rw [up_ne (by omega)] | rw [rem_o hA (by omega)] | rw [rmM_o (by omega)] | rw [fl_o (by omega)] | rw [tks_o (by omega)] | rw [cp_o (by omega)] | rw [rst_o (by omega)])); exact st.1
      · show (mx_up (rem A) 60 f 0) 59 2 = (mx_up (rmM B) 236 (0 + f) 0) 236 7
        (repeat (first | rfl | rw [up_eq] | rw [up_ne (by omega)] | rw [rem_o hA (by omega)] | rw [rmM_o (by omega)] | rw [fl_o (by omega)] | rw [tks_o (by omega)] | rw [cp_o (by omega)] | rw [rst_o (by omega)])); exact st.2.1
      · show (mx_up (rem A) 60 f 0) 59 3 = (mx_up (rmM B) 236 (0 + f) 0) 236 8
        (repeat (first | rfl | rw [up_eq] | rw [up_ne (by omega)] | rw [rem_o hA (by omega)] | rw [rmM_o (by omega)] | rw [fl_o (by omega)] | rw [tks_o (by omega)] | rw [cp_o (by omega)] | rw [rst_o (by omega)])); exact st.2.2.1
      · show (mx_up (rem A) 60 f 0) 59 4 = (mx_up (rmM B) 236 (0 + f) 0) 236 11
        (repeat (first | rfl | rw [up_eq] | rw [up_ne (by omega)] | rw [rem_o hA (by omega)] | rw [rmM_o (by omega)] | rw [fl_o (by omega)] | rw [tks_o (by omega)] | rw [cp_o (by omega)] | rw [rst_o (by omega)])); exact st.2.2.2.1
      · show (mx_up (rem A) 60 f 0) 59 5 = (mx_up (rmM B) 236 (0 + f) 0) 236 10
        (repeat (first | rfl | rw [up_eq] | rw [up_ne (by omega)] | rw [rem_o hA (by omega)] | rw [rmM_o (by omega)] | rw [fl_o (by omega)] | rw [tks_o (by omega)] | rw [cp_o (by omega)] | rw [rst_o (by omega)])); exact st.2.2.2.2
      · show (mx_up (rmM B) 236 (0 + f) 0) 236 11 < _ ∨ _ ∧ (mx_up (rmM B) 236 (0 + f) 0) 236 11 = 0
        (repeat (first | rfl | rw [up_eq] | rw [up_ne (by omega)] | rw [rem_o hA (by omega)] | rw [rmM_o (by omega)] | rw [fl_o (by omega)] | rw [tks_o (by omega)] | rw [cp_o (by omega)] | rw [rst_o (by omega)])); exact iv_a h
  · rw [if_neg hf, if_neg (by omega)]; exact ⟨rfl, h⟩
theorem s_day (hA : Bd A) (hB : Bd B) (h : IV A B) : (w_X10_day A).1 = (w_X11_day B).1 ∧ IV (w_X10_day A).2 (w_X11_day B).2 := by
  have n0 : 0 ≤ B 233 0 ∧ B 233 0 ≤ 7 := hB 233 0
  have nn := iv_n h
  have st := iv_s h
  have t1 := h.1.1
  have b8 : 0 ≤ B 236 8 ∧ B 236 8 ≤ 999 := hB 236 8
  unfold w_X10_day w_X11_day
  by_cases c : B 236 8 = 999
  · rw [if_pos c, if_neg (by omega)]; exact ⟨rfl, h⟩
  · rw [if_neg c, if_pos (by omega)]
    refine ⟨by rw [st.1], ?_⟩
    show IV (mx_up (mx_up (mx_up (mx_up (rem A) 59 1 0) 59 2 0) 59 5 0) 59 3 ((A 59 3) + 1)) (mx_up (mx_up (mx_up (mx_up (rmM B) 236 7 0) 236 9 0) 236 10 0) 236 8 ((B 236 8) + 1))
    refine IV_do hA hB h (fun a j z => by repeat (first | rfl | rw [up_ne (by omega)] | rw [rem_o hA (by omega)] | rw [rmM_o (by omega)] | rw [fl_o (by omega)] | rw [tks_o (by omega)] | rw [cp_o (by omega)] | rw [rst_o (by omega)] | rw [rnw_o (by omega)] | rw [putl_o (by omega)] | rw [fz_o (by omega)])) (fun a j z => by repeat (first | rfl | rw [up_ne (by omega)] | rw [rem_o hA (by omega)] | rw [rmM_o (by omega)] | rw [fl_o (by omega)] | rw [tks_o (by omega)] | rw [cp_o (by omega)] | rw [rst_o (by omega)] | rw [rnw_o (by omega)] | rw [putl_o (by omega)] | rw [fz_o (by omega)])) ?_
    unfold NWr
    rw [show (mx_up (mx_up (mx_up (mx_up (rmM B) 236 7 0) 236 9 0) 236 10 0) 236 8 ((B 236 8) + 1)) 233 0 = B 233 0 from by repeat (first | rfl | rw [up_ne (by omega)] | rw [rem_o hA (by omega)] | rw [rmM_o (by omega)] | rw [fl_o (by omega)] | rw [tks_o (by omega)] | rw [cp_o (by omega)] | rw [rst_o (by omega)] | rw [rnw_o (by omega)] | rw [putl_o (by omega)] | rw [fz_o (by omega)])]
    refine ⟨fun f f0 f1 => ?_, fun f f0 f1 f2 => ?_, ⟨?_, ?_, ?_, ?_, ?_⟩, ?_⟩
    · show (mx_up (mx_up (mx_up (mx_up (rem A) 59 1 0) 59 2 0) 59 5 0) 59 3 ((A 59 3) + 1)) 60 f = (mx_up (mx_up (mx_up (mx_up (rmM B) 236 7 0) 236 9 0) 236 10 0) 236 8 ((B 236 8) + 1)) 236 f
      (repeat (first | rfl | rw [up_ne (by omega)] | rw [rem_o hA (by omega)] | rw [rmM_o (by omega)] | rw [fl_o (by omega)] | rw [tks_o (by omega)] | rw [cp_o (by omega)] | rw [rst_o (by omega)] | rw [rnw_o (by omega)] | rw [putl_o (by omega)] | rw [fz_o (by omega)])); exact (iv_l h f0 f1)
    · show (mx_up (mx_up (mx_up (mx_up (rmM B) 236 7 0) 236 9 0) 236 10 0) 236 8 ((B 236 8) + 1)) 236 f = 0
      (repeat (first | rfl | rw [up_ne (by omega)] | rw [rem_o hA (by omega)] | rw [rmM_o (by omega)] | rw [fl_o (by omega)] | rw [tks_o (by omega)] | rw [cp_o (by omega)] | rw [rst_o (by omega)] | rw [rnw_o (by omega)] | rw [putl_o (by omega)] | rw [fz_o (by omega)])); exact h.2.2.2.1.2.1 f f0 f1 f2
    · show (mx_up (mx_up (mx_up (mx_up (rem A) 59 1 0) 59 2 0) 59 5 0) 59 3 ((A 59 3) + 1)) 59 1 = (mx_up (mx_up (mx_up (mx_up (rmM B) 236 7 0) 236 9 0) 236 10 0) 236 8 ((B 236 8) + 1)) 236 9
      rfl
    · show (mx_up (mx_up (mx_up (mx_up (rem A) 59 1 0) 59 2 0) 59 5 0) 59 3 ((A 59 3) + 1)) 59 2 = (mx_up (mx_up (mx_up (mx_up (rmM B) 236 7 0) 236 9 0) 236 10 0) 236 8 ((B 236 8) + 1)) 236 7
      rfl
    · show (mx_up (mx_up (mx_up (mx_up (rem A) 59 1 0) 59 2 0) 59 5 0) 59 3 ((A 59 3) + 1)) 59 3 = (mx_up (mx_up (mx_up (mx_up (rmM B) 236 7 0) 236 9 0) 236 10 0) 236 8 ((B 236 8) + 1)) 236 8
      rw [up_eq, up_eq, st.2.2.1]
    · show (mx_up (mx_up (mx_up (mx_up (rem A) 59 1 0) 59 2 0) 59 5 0) 59 3 ((A 59 3) + 1)) 59 4 = (mx_up (mx_up (mx_up (mx_up (rmM B) 236 7 0) 236 9 0) 236 10 0) 236 8 ((B 236 8) + 1)) 236 11
      (repeat (first | rfl | rw [up_eq] | rw [up_ne (by omega)] | rw [rem_o hA (by omega)] | rw [rmM_o (by omega)] | rw [fl_o (by omega)] | rw [tks_o (by omega)] | rw [cp_o (by omega)] | rw [rst_o (by omega)])); exact st.2.2.2.1
    · show (mx_up (mx_up (mx_up (mx_up (rem A) 59 1 0) 59 2 0) 59 5 0) 59 3 ((A 59 3) + 1)) 59 5 = (mx_up (mx_up (mx_up (mx_up (rmM B) 236 7 0) 236 9 0) 236 10 0) 236 8 ((B 236 8) + 1)) 236 10
      rfl
    · show (mx_up (mx_up (mx_up (mx_up (rmM B) 236 7 0) 236 9 0) 236 10 0) 236 8 ((B 236 8) + 1)) 236 11 < _ ∨ _ ∧ (mx_up (mx_up (mx_up (mx_up (rmM B) 236 7 0) 236 9 0) 236 10 0) 236 8 ((B 236 8) + 1)) 236 11 = 0
      (repeat (first | rfl | rw [up_eq] | rw [up_ne (by omega)] | rw [rem_o hA (by omega)] | rw [rmM_o (by omega)] | rw [fl_o (by omega)] | rw [tks_o (by omega)] | rw [cp_o (by omega)] | rw [rst_o (by omega)])); exact iv_a h
end
