/-! CALLS that change something, second half -/
theorem SR_tr {A A' : rS} {x x' n : Int} {N N' : Int → Int} (h : SR A x N n) (h1 : ∀ j : Int, 1 ≤ j → j ≤ 5 → A' x' j = A x j) (h2 : ∀ j : Int, 0 ≤ j → j < 7 → A' (x' + 1) j = A (x + 1) j) (h3 : ∀ j : Int, 0 ≤ j → j < 12 → N' j = N j) (hn : 0 ≤ n ∧ n ≤ 7) : SR A' x' N' n := by
  obtain ⟨a, b, ⟨c1, c2, c3, c4, c5⟩, d⟩ := h
  refine ⟨fun f f0 f1 => by rw [h2 f f0 (by omega), h3 f f0 (by omega)]; exact a f f0 f1, fun f f0 f1 f2 => by rw [h3 f f0 (by omega)]; exact b f f0 f1 f2, ?_, by rw [h3 11 (by omega) (by omega)]; exact d⟩
  rw [h1 1 (by omega) (by omega), h1 2 (by omega) (by omega), h1 3 (by omega) (by omega), h1 4 (by omega) (by omega), h1 5 (by omega) (by omega), h3 9 (by omega) (by omega), h3 7 (by omega) (by omega), h3 8 (by omega) (by omega), h3 11 (by omega) (by omega), h3 10 (by omega) (by omega)]
  exact ⟨c1, c2, c3, c4, c5⟩
theorem and_m1g {a : Int} (h : -2147483648 ≤ a ∧ a < 2147483648) : mx_and a (-1) = a := b_ext (mx_and_r _ _) h (fun i hi => by rw [b_and, b_m1 i hi, Bool.and_true])
theorem and_nx {a p : Int} : mx_and a (mx_xor (mx_and a p) (-1)) = mx_and a (mx_xor p (-1)) := b_ext (mx_and_r _ _) (mx_and_r _ _) (fun i hi => by rw [b_and, b_and, b_xor, b_xor, b_and]; cases bt a i <;> cases bt p i <;> cases bt (-1) i <;> rfl)
theorem wo_n0 : ∀ a : Fin 256, wo (fun x => 7 - x) (-2) a.val = mx_and a.val (mx_xor (fo (rns (fun x => 7 - x) (-2) a.val) 0 8) (-1)) ∧ wo (fun x => x) (-2) a.val = mx_and a.val (mx_xor (fo (rns (fun x => x) (-2) a.val) 0 8) (-1)) := by decide +kernel
theorem wo_n1 : ∀ a : Fin 256, wo (fun x => 7 - x) (-1) a.val = mx_and a.val (mx_xor (fo (rns (fun x => 7 - x) (-1) a.val) 0 8) (-1)) ∧ wo (fun x => x) (-1) a.val = mx_and a.val (mx_xor (fo (rns (fun x => x) (-1) a.val) 0 8) (-1)) := by decide +kernel
theorem wo_n2 : ∀ a : Fin 256, wo (fun x => 7 - x) (0) a.val = mx_and a.val (mx_xor (fo (rns (fun x => 7 - x) (0) a.val) 0 8) (-1)) ∧ wo (fun x => x) (0) a.val = mx_and a.val (mx_xor (fo (rns (fun x => x) (0) a.val) 0 8) (-1)) := by decide +kernel
theorem wo_n3 : ∀ a : Fin 256, wo (fun x => 7 - x) (1) a.val = mx_and a.val (mx_xor (fo (rns (fun x => 7 - x) (1) a.val) 0 8) (-1)) ∧ wo (fun x => x) (1) a.val = mx_and a.val (mx_xor (fo (rns (fun x => x) (1) a.val) 0 8) (-1)) := by decide +kernel
theorem wo_n4 : ∀ a : Fin 256, wo (fun x => 7 - x) (2) a.val = mx_and a.val (mx_xor (fo (rns (fun x => 7 - x) (2) a.val) 0 8) (-1)) ∧ wo (fun x => x) (2) a.val = mx_and a.val (mx_xor (fo (rns (fun x => x) (2) a.val) 0 8) (-1)) := by decide +kernel
theorem wo_n5 : ∀ a : Fin 256, wo (fun x => 7 - x) (3) a.val = mx_and a.val (mx_xor (fo (rns (fun x => 7 - x) (3) a.val) 0 8) (-1)) ∧ wo (fun x => x) (3) a.val = mx_and a.val (mx_xor (fo (rns (fun x => x) (3) a.val) 0 8) (-1)) := by decide +kernel
theorem wo_n6 : ∀ a : Fin 256, wo (fun x => 7 - x) (4) a.val = mx_and a.val (mx_xor (fo (rns (fun x => 7 - x) (4) a.val) 0 8) (-1)) ∧ wo (fun x => x) (4) a.val = mx_and a.val (mx_xor (fo (rns (fun x => x) (4) a.val) 0 8) (-1)) := by decide +kernel
theorem wo_n7 : ∀ a : Fin 256, wo (fun x => 7 - x) (5) a.val = mx_and a.val (mx_xor (fo (rns (fun x => 7 - x) (5) a.val) 0 8) (-1)) ∧ wo (fun x => x) (5) a.val = mx_and a.val (mx_xor (fo (rns (fun x => x) (5) a.val) 0 8) (-1)) := by decide +kernel
theorem wo_n8 : ∀ a : Fin 256, wo (fun x => 7 - x) (6) a.val = mx_and a.val (mx_xor (fo (rns (fun x => 7 - x) (6) a.val) 0 8) (-1)) ∧ wo (fun x => x) (6) a.val = mx_and a.val (mx_xor (fo (rns (fun x => x) (6) a.val) 0 8) (-1)) := by decide +kernel
theorem wo_n9 : ∀ a : Fin 256, wo (fun x => 7 - x) (7) a.val = mx_and a.val (mx_xor (fo (rns (fun x => 7 - x) (7) a.val) 0 8) (-1)) ∧ wo (fun x => x) (7) a.val = mx_and a.val (mx_xor (fo (rns (fun x => x) (7) a.val) 0 8) (-1)) := by decide +kernel
theorem wo_n10 : ∀ a : Fin 256, wo (fun x => 7 - x) (8) a.val = mx_and a.val (mx_xor (fo (rns (fun x => 7 - x) (8) a.val) 0 8) (-1)) ∧ wo (fun x => x) (8) a.val = mx_and a.val (mx_xor (fo (rns (fun x => x) (8) a.val) 0 8) (-1)) := by decide +kernel
theorem wo_n11 : ∀ a : Fin 256, wo (fun x => 7 - x) (9) a.val = mx_and a.val (mx_xor (fo (rns (fun x => 7 - x) (9) a.val) 0 8) (-1)) ∧ wo (fun x => x) (9) a.val = mx_and a.val (mx_xor (fo (rns (fun x => x) (9) a.val) 0 8) (-1)) := by decide +kernel
theorem wo_e {m a : Int} (hm : -2 ≤ m ∧ m ≤ 9) (ha : 0 ≤ a ∧ a < 256) : wo (fun x => 7 - x) m a = mx_and a (mx_xor (fo (rns (fun x => 7 - x) m a) 0 8) (-1)) ∧ wo (fun x => x) m a = mx_and a (mx_xor (fo (rns (fun x => x) m a) 0 8) (-1)) := by
  obtain ⟨x, rfl⟩ := Int.eq_ofNat_of_zero_le ha.1
  rcases (show m = -2 ∨ m = -1 ∨ m = 0 ∨ m = 1 ∨ m = 2 ∨ m = 3 ∨ m = 4 ∨ m = 5 ∨ m = 6 ∨ m = 7 ∨ m = 8 ∨ m = 9 by omega) with e | e | e | e | e | e | e | e | e | e | e | e <;> subst e
  · exact wo_n0 ⟨x, by omega⟩
  · exact wo_n1 ⟨x, by omega⟩
  · exact wo_n2 ⟨x, by omega⟩
  · exact wo_n3 ⟨x, by omega⟩
  · exact wo_n4 ⟨x, by omega⟩
  · exact wo_n5 ⟨x, by omega⟩
  · exact wo_n6 ⟨x, by omega⟩
  · exact wo_n7 ⟨x, by omega⟩
  · exact wo_n8 ⟨x, by omega⟩
  · exact wo_n9 ⟨x, by omega⟩
  · exact wo_n10 ⟨x, by omega⟩
  · exact wo_n11 ⟨x, by omega⟩
theorem rpl_7 {k : Int} (h : k ≠ 3) : rpl k = fun x => 7 - x := funext fun x => if_neg h
theorem rpl_3 : rpl 3 = fun x => x := funext fun x => if_pos rfl
theorem rain_e {k a r : Int} (hk : 0 ≤ k ∧ k ≤ 3) (ha : 0 ≤ a ∧ a < 256) (hr : 1 ≤ r ∧ r ≤ 9) : rnl k a r = mx_and a (mx_xor (rnm k a r) (-1)) := by
  unfold rnl rnm
  rcases (show k = 0 ∨ k = 1 ∨ k = 2 ∨ k = 3 by omega) with e | e | e | e <;> subst e
  · rw [if_pos rfl, if_neg (by decide), if_neg (by decide), rpl_7 (by decide)]; exact (wo_e (by omega) ha).1
  · rw [if_neg (by decide), if_pos rfl, if_pos rfl]
    have z := fo_ind (f := rns (rpl 1) 0 a) (a := (0 : Int)) (fun _ s => s = 0) rfl (N := 8) (fun x s _ _ hs => by
      show rns (rpl 1) 0 a x s = 0
      unfold rns
      rw [if_neg (by rw [hs, pop_0]; omega)]; exact hs) 8 (Nat.le_refl _)
    rw [z, show mx_xor 0 (-1) = -1 by decide, and_m1g (by omega)]
  · rw [if_neg (by decide), if_neg (by decide), if_pos rfl, if_neg (by decide), if_pos rfl, rpl_7 (by decide)]; exact (wo_e (by omega) ha).1
  · rw [if_neg (by decide), if_neg (by decide), if_neg (by decide), if_pos rfl, if_neg (by decide), if_neg (by decide), rpl_3]; exact (wo_e (by omega) ha).2
section
variable {A B A' B' : rS}
theorem e_rem (hA : Bd A) : sm (fun kk => pop ((rem A) 60 kk)) ((rem A) 25 0) = sm (fun kk => pop (A 60 kk)) (A 25 0) := by
  rw [rem_o hA (by omega)]
  exact sm_cg _ (fun k _ _ => by rw [rem_o hA (by omega)])
theorem e_rmM : sm (fun kk => pop ((rmM B) 236 (0 + kk))) 7 = sm (fun kk => pop (B 236 (0 + kk))) 7 := sm_cg _ (fun k _ _ => by rw [rmM_o (by omega)])
theorem s_rain (hA : Bd A) (hB : Bd B) (h : IV A B) {r : Int} (hA' : Bd (w_X10_rain A r).2) (hB' : Bd (w_X11_rain B r).2) : (w_X10_rain A r).1 = (w_X11_rain B r).1 ∧ IV (w_X10_rain A r).2 (w_X11_rain B r).2 := by
  have n0 : 0 ≤ B 233 0 ∧ B 233 0 ≤ 7 := hB 233 0
  have nn := iv_n h
  have st := iv_s h
  have t1 := h.1.1
  by_cases hr : 1 ≤ r ∧ r ≤ 9
  · have hI : IV (mx_up (fl (rem A) 60 (fun kk => rnl (A 26 kk) (A 60 kk) r) (A 25 0)) 59 5 r) (mx_up (fl (rmM B) 236 (fun kk => mx_and (B 236 kk) (mx_xor (rnm (B 233 (1 + kk)) (B 236 kk) r) (-1))) (B 233 0)) 236 10 r) := by
      skip
      show IV (mx_up (fl (rem A) 60 (fun kk => rnl (A 26 kk) (A 60 kk) r) (A 25 0)) 59 5 r) (mx_up (fl (rmM B) 236 (fun kk => mx_and (B 236 kk) (mx_xor (rnm (B 233 (1 + kk)) (B 236 kk) r) (-1))) (B 233 0)) 236 10 r)
      refine IV_do hA hB h (fun a j z => by repeat (first | rfl | rw [up_ne (by omega)] | rw [rem_o hA (by omega)] | rw [rmM_o (by omega)] | rw [fl_o (by omega)] | rw [tks_o (by omega)] | rw [cp_o (by omega)] | rw [rst_o (by omega)] | rw [rnw_o (by omega)] | rw [putl_o (by omega)] | rw [fz_o (by omega)])) (fun a j z => by repeat (first | rfl | rw [up_ne (by omega)] | rw [rem_o hA (by omega)] | rw [rmM_o (by omega)] | rw [fl_o (by omega)] | rw [tks_o (by omega)] | rw [cp_o (by omega)] | rw [rst_o (by omega)] | rw [rnw_o (by omega)] | rw [putl_o (by omega)] | rw [fz_o (by omega)])) ?_
      unfold NWr
      rw [show (mx_up (fl (rmM B) 236 (fun kk => mx_and (B 236 kk) (mx_xor (rnm (B 233 (1 + kk)) (B 236 kk) r) (-1))) (B 233 0)) 236 10 r) 233 0 = B 233 0 from by repeat (first | rfl | rw [up_ne (by omega)] | rw [rem_o hA (by omega)] | rw [rmM_o (by omega)] | rw [fl_o (by omega)] | rw [tks_o (by omega)] | rw [cp_o (by omega)] | rw [rst_o (by omega)] | rw [rnw_o (by omega)] | rw [putl_o (by omega)] | rw [fz_o (by omega)])]
      refine ⟨fun f f0 f1 => ?_, fun f f0 f1 f2 => ?_, ⟨?_, ?_, ?_, ?_, ?_⟩, ?_⟩
      · show (mx_up (fl (rem A) 60 (fun kk => rnl (A 26 kk) (A 60 kk) r) (A 25 0)) 59 5 r) 60 f = (mx_up (fl (rmM B) 236 (fun kk => mx_and (B 236 kk) (mx_xor (rnm (B 233 (1 + kk)) (B 236 kk) r) (-1))) (B 233 0)) 236 10 r) 236 f
        have q := iv_f h f0 f1
        have k3 := bdc_233_1 hB f
        have l8 := lf8 hB (f := f) (by omega)
        rw [up_ne (by omega), up_ne (by omega), fl_i (by omega), fl_i (by omega)]
        show rnl (A 26 f) (A 60 f) r = mx_and (B 236 f) (mx_xor (rnm (B 233 (1 + f)) (B 236 f) r) (-1))
        rw [q.1.1, q.2.2, Int.zero_add]
        rw [Int.zero_add] at l8
        exact rain_e (by omega) (by omega) hr
      · show (mx_up (fl (rmM B) 236 (fun kk => mx_and (B 236 kk) (mx_xor (rnm (B 233 (1 + kk)) (B 236 kk) r) (-1))) (B 233 0)) 236 10 r) 236 f = 0
        rw [up_ne (by omega), fl_hi (by omega), rmM_o (by omega)]; exact h.2.2.2.1.2.1 f f0 f1 f2
      · show (mx_up (fl (rem A) 60 (fun kk => rnl (A 26 kk) (A 60 kk) r) (A 25 0)) 59 5 r) 59 1 = (mx_up (fl (rmM B) 236 (fun kk => mx_and (B 236 kk) (mx_xor (rnm (B 233 (1 + kk)) (B 236 kk) r) (-1))) (B 233 0)) 236 10 r) 236 9
        rw [up_ne (by omega), fl_o (by omega), rem_o hA (by omega), up_ne (by omega), fl_hi (by omega), rmM_o (by omega)]; exact st.1
      · show (mx_up (fl (rem A) 60 (fun kk => rnl (A 26 kk) (A 60 kk) r) (A 25 0)) 59 5 r) 59 2 = (mx_up (fl (rmM B) 236 (fun kk => mx_and (B 236 kk) (mx_xor (rnm (B 233 (1 + kk)) (B 236 kk) r) (-1))) (B 233 0)) 236 10 r) 236 7
        rw [up_ne (by omega), fl_o (by omega), rem_o hA (by omega), up_ne (by omega), fl_hi (by omega), rmM_o (by omega)]; exact st.2.1
      · show (mx_up (fl (rem A) 60 (fun kk => rnl (A 26 kk) (A 60 kk) r) (A 25 0)) 59 5 r) 59 3 = (mx_up (fl (rmM B) 236 (fun kk => mx_and (B 236 kk) (mx_xor (rnm (B 233 (1 + kk)) (B 236 kk) r) (-1))) (B 233 0)) 236 10 r) 236 8
        rw [up_ne (by omega), fl_o (by omega), rem_o hA (by omega), up_ne (by omega), fl_hi (by omega), rmM_o (by omega)]; exact st.2.2.1
      · show (mx_up (fl (rem A) 60 (fun kk => rnl (A 26 kk) (A 60 kk) r) (A 25 0)) 59 5 r) 59 4 = (mx_up (fl (rmM B) 236 (fun kk => mx_and (B 236 kk) (mx_xor (rnm (B 233 (1 + kk)) (B 236 kk) r) (-1))) (B 233 0)) 236 10 r) 236 11
        rw [up_ne (by omega), fl_o (by omega), rem_o hA (by omega), up_ne (by omega), fl_hi (by omega), rmM_o (by omega)]; exact st.2.2.2.1
      · show (mx_up (fl (rem A) 60 (fun kk => rnl (A 26 kk) (A 60 kk) r) (A 25 0)) 59 5 r) 59 5 = (mx_up (fl (rmM B) 236 (fun kk => mx_and (B 236 kk) (mx_xor (rnm (B 233 (1 + kk)) (B 236 kk) r) (-1))) (B 233 0)) 236 10 r) 236 10
        rw [up_eq, up_eq]
      · show (mx_up (fl (rmM B) 236 (fun kk => mx_and (B 236 kk) (mx_xor (rnm (B 233 (1 + kk)) (B 236 kk) r) (-1))) (B 233 0)) 236 10 r) 236 11 < _ ∨ _ ∧ (mx_up (fl (rmM B) 236 (fun kk => mx_and (B 236 kk) (mx_xor (rnm (B 233 (1 + kk)) (B 236 kk) r) (-1))) (B 233 0)) 236 10 r) 236 11 = 0
        rw [up_ne (by omega), fl_hi (by omega), rmM_o (by omega)]; exact iv_a h
    have hA2 := hA'
    have hB2 := hB'
    unfold w_X10_rain at hA2
    unfold w_X11_rain at hB2
    rw [if_neg (show ¬ r < 1 by omega), if_neg (show ¬ 9 < r by omega)] at hA2
    rw [if_pos hr] at hB2
    unfold w_X10_rain w_X11_rain
    rw [if_neg (show ¬ r < 1 by omega), if_neg (show ¬ 9 < r by omega), if_pos hr]
    refine ⟨?_, hI⟩
    have q := e_left hA2 hB2 hI
    have q2 := e_left hA hB h
    show sm _ _ - sm _ _ = sm _ _ - sm _ _
    rw [e_rem hA, e_rmM, q2]
    exact congrArg (fun z => sm (fun kk => pop (B 236 (0 + kk))) 7 - z) q
  · unfold w_X10_rain w_X11_rain
    rw [if_neg hr]
    by_cases k0 : r < 1
    · rw [if_pos k0]; exact ⟨rfl, h⟩
    · rw [if_neg k0, if_pos (by omega)]; exact ⟨rfl, h⟩
theorem s_birds (hA : Bd A) (hB : Bd B) (h : IV A B) (hA' : Bd (w_X10_birds A).2) (hB' : Bd (w_X11_birds B).2) : (w_X10_birds A).1 = (w_X11_birds B).1 ∧ IV (w_X10_birds A).2 (w_X11_birds B).2 := by
  have n0 : 0 ≤ B 233 0 ∧ B 233 0 ≤ 7 := hB 233 0
  have nn := iv_n h
  have st := iv_s h
  have t1 := h.1.1
  unfold w_X10_birds w_X11_birds at *
  have hI : IV (fl (rem A) 60 (fun kk => mx_and (A 60 kk) (mx_xor (bpl A kk) (-1))) (A 25 0)) (fl (rmM B) 236 (fun kk => mx_and (B 236 kk) (mx_xor (bpM B kk) (-1))) (B 233 0)) := by
    skip
    show IV (fl (rem A) 60 (fun kk => mx_and (A 60 kk) (mx_xor (bpl A kk) (-1))) (A 25 0)) (fl (rmM B) 236 (fun kk => mx_and (B 236 kk) (mx_xor (bpM B kk) (-1))) (B 233 0))
    refine IV_do hA hB h (fun a j z => by repeat (first | rfl | rw [up_ne (by omega)] | rw [rem_o hA (by omega)] | rw [rmM_o (by omega)] | rw [fl_o (by omega)] | rw [tks_o (by omega)] | rw [cp_o (by omega)] | rw [rst_o (by omega)] | rw [rnw_o (by omega)] | rw [putl_o (by omega)] | rw [fz_o (by omega)])) (fun a j z => by repeat (first | rfl | rw [up_ne (by omega)] | rw [rem_o hA (by omega)] | rw [rmM_o (by omega)] | rw [fl_o (by omega)] | rw [tks_o (by omega)] | rw [cp_o (by omega)] | rw [rst_o (by omega)] | rw [rnw_o (by omega)] | rw [putl_o (by omega)] | rw [fz_o (by omega)])) ?_
    unfold NWr
    rw [show (fl (rmM B) 236 (fun kk => mx_and (B 236 kk) (mx_xor (bpM B kk) (-1))) (B 233 0)) 233 0 = B 233 0 from by repeat (first | rfl | rw [up_ne (by omega)] | rw [rem_o hA (by omega)] | rw [rmM_o (by omega)] | rw [fl_o (by omega)] | rw [tks_o (by omega)] | rw [cp_o (by omega)] | rw [rst_o (by omega)] | rw [rnw_o (by omega)] | rw [putl_o (by omega)] | rw [fz_o (by omega)])]
    refine ⟨fun f f0 f1 => ?_, fun f f0 f1 f2 => ?_, ⟨?_, ?_, ?_, ?_, ?_⟩, ?_⟩
    · show (fl (rem A) 60 (fun kk => mx_and (A 60 kk) (mx_xor (bpl A kk) (-1))) (A 25 0)) 60 f = (fl (rmM B) 236 (fun kk => mx_and (B 236 kk) (mx_xor (bpM B kk) (-1))) (B 233 0)) 236 f
      have q := iv_f h f0 f1
      rw [fl_i (by omega), fl_i (by omega)]
      show mx_and (A 60 f) (mx_xor (bpl A f) (-1)) = mx_and (B 236 f) (mx_xor (bpM B f) (-1))
      rw [← bird_e hA hB h ⟨f0, f1⟩, show B 236 f = A 60 f from (iv_l h f0 f1).symm]
      exact and_nx.symm
    · show (fl (rmM B) 236 (fun kk => mx_and (B 236 kk) (mx_xor (bpM B kk) (-1))) (B 233 0)) 236 f = 0
      rw [fl_hi (by omega), rmM_o (by omega)]; exact h.2.2.2.1.2.1 f f0 f1 f2
    · show (fl (rem A) 60 (fun kk => mx_and (A 60 kk) (mx_xor (bpl A kk) (-1))) (A 25 0)) 59 1 = (fl (rmM B) 236 (fun kk => mx_and (B 236 kk) (mx_xor (bpM B kk) (-1))) (B 233 0)) 236 9
      rw [fl_o (by omega), rem_o hA (by omega), fl_hi (by omega), rmM_o (by omega)]; exact st.1
    · show (fl (rem A) 60 (fun kk => mx_and (A 60 kk) (mx_xor (bpl A kk) (-1))) (A 25 0)) 59 2 = (fl (rmM B) 236 (fun kk => mx_and (B 236 kk) (mx_xor (bpM B kk) (-1))) (B 233 0)) 236 7
      rw [fl_o (by omega), rem_o hA (by omega), fl_hi (by omega), rmM_o (by omega)]; exact st.2.1
    · show (fl (rem A) 60 (fun kk => mx_and (A 60 kk) (mx_xor (bpl A kk) (-1))) (A 25 0)) 59 3 = (fl (rmM B) 236 (fun kk => mx_and (B 236 kk) (mx_xor (bpM B kk) (-1))) (B 233 0)) 236 8
      rw [fl_o (by omega), rem_o hA (by omega), fl_hi (by omega), rmM_o (by omega)]; exact st.2.2.1
    · show (fl (rem A) 60 (fun kk => mx_and (A 60 kk) (mx_xor (bpl A kk) (-1))) (A 25 0)) 59 4 = (fl (rmM B) 236 (fun kk => mx_and (B 236 kk) (mx_xor (bpM B kk) (-1))) (B 233 0)) 236 11
      rw [fl_o (by omega), rem_o hA (by omega), fl_hi (by omega), rmM_o (by omega)]; exact st.2.2.2.1
    · show (fl (rem A) 60 (fun kk => mx_and (A 60 kk) (mx_xor (bpl A kk) (-1))) (A 25 0)) 59 5 = (fl (rmM B) 236 (fun kk => mx_and (B 236 kk) (mx_xor (bpM B kk) (-1))) (B 233 0)) 236 10
      rw [fl_o (by omega), rem_o hA (by omega), fl_hi (by omega), rmM_o (by omega)]; exact st.2.2.2.2
    · show (fl (rmM B) 236 (fun kk => mx_and (B 236 kk) (mx_xor (bpM B kk) (-1))) (B 233 0)) 236 11 < _ ∨ _ ∧ (fl (rmM B) 236 (fun kk => mx_and (B 236 kk) (mx_xor (bpM B kk) (-1))) (B 233 0)) 236 11 = 0
      rw [fl_hi (by omega), rmM_o (by omega)]; exact iv_a h
  refine ⟨?_, hI⟩
  have q := e_left hA' hB' hI
  have q2 := e_left hA hB h
  show sm _ _ - sm _ _ = sm _ _ - sm _ _
  rw [e_rem hA, e_rmM, q2]
  exact congrArg (fun z => sm (fun kk => pop (B 236 (0 + kk))) 7 - z) q
theorem s_undo (hA : Bd A) (hB : Bd B) (h : IV A B) : (w_X10_undo A).1 = (w_X11_undo B).1 ∧ IV (w_X10_undo A).2 (w_X11_undo B).2 := by
  have n0 : 0 ≤ B 233 0 ∧ B 233 0 ≤ 7 := hB 233 0
  have nn := iv_n h
  have st := iv_s h
  have t1 := h.1.1
  have p := h.2.2.2.2.1
  have b : 0 ≤ A 61 2 ∧ A 61 2 ≤ 7 := hA 61 2
  have u5 : 0 ≤ B 232 5 ∧ B 232 5 ≤ 8 := hB 232 5
  unfold w_X10_undo w_X11_undo
  by_cases c : B 232 5 = 0
  · rw [if_pos c, if_pos (by rw [p.1]; exact c)]; exact ⟨rfl, h⟩
  · have p1 := p.1
    rw [if_neg c, if_neg (by omega)]
    refine ⟨by show A 61 0 - 1 = B 232 5 - 1; omega, ?_⟩
    have q := p.2 (B 232 5 - 1) (by omega) (by omega)
    rw [show (A 61 2 + 8 - B 232 5 + (B 232 5 - 1)) % 8 = (A 61 2 + 8 - 1) % 8 by omega] at q
    generalize hi : (A 61 2 + 8 - 1) % 8 = i at *
    have ib : 0 ≤ i ∧ i < 8 := by omega
    have er : rst A = tks (mx_up (mx_up A 61 2 i) 61 0 (A 61 0 - 1)) 59 (63 + 2 * i) := by unfold rst; rw [hi]
    have hN : NWr (rst A) (mx_cp (mx_up B 232 5 ((B 232 5) - 1)) 237 (12 * ((B 232 5) - 1)) 236 0 12) := by
      unfold NWr
      rw [show (mx_cp (mx_up B 232 5 ((B 232 5) - 1)) 237 (12 * ((B 232 5) - 1)) 236 0 12) 233 0 = B 233 0 from by repeat (first | rfl | rw [up_ne (by omega)] | rw [rem_o hA (by omega)] | rw [rmM_o (by omega)] | rw [fl_o (by omega)] | rw [tks_o (by omega)] | rw [cp_o (by omega)] | rw [rst_o (by omega)] | rw [rnw_o (by omega)] | rw [putl_o (by omega)] | rw [fz_o (by omega)])]
      refine SR_tr q (fun j j0 j1 => ?_) (fun j j0 j1 => ?_) (fun j j0 j1 => ?_) n0
      · rw [er, tks_f ⟨j0, j1⟩, up_ne (by omega), up_ne (by omega)]
      · rw [er, tks_l (by omega) ⟨j0, j1⟩, up_ne (by omega), up_ne (by omega)]
      · show (mx_cp (mx_up B 232 5 ((B 232 5) - 1)) 237 (12 * ((B 232 5) - 1)) 236 0 12) 236 j = B 237 (12 * (B 232 5 - 1) + j)
        rw [cp_i (by omega), up_ne (by omega)]; exact congrArg (B 237) (by omega)
    have hP : PSr (rst A) (mx_cp (mx_up B 232 5 ((B 232 5) - 1)) 237 (12 * ((B 232 5) - 1)) 236 0 12) := by
      have e0 : rst A 61 0 = A 61 0 - 1 := by rw [er, tks_o (by omega), up_eq]
      have e2 : rst A 61 2 = i := by rw [er, tks_o (by omega), up_ne (by omega), up_eq]
      have e5 : (mx_cp (mx_up B 232 5 ((B 232 5) - 1)) 237 (12 * ((B 232 5) - 1)) 236 0 12) 232 5 = B 232 5 - 1 := by rw [cp_o (by omega), up_eq]
      unfold PSr
      rw [e0, e2, e5, show (mx_cp (mx_up B 232 5 ((B 232 5) - 1)) 237 (12 * ((B 232 5) - 1)) 236 0 12) 233 0 = B 233 0 from by repeat (first | rfl | rw [up_ne (by omega)] | rw [rem_o hA (by omega)] | rw [rmM_o (by omega)] | rw [fl_o (by omega)] | rw [tks_o (by omega)] | rw [cp_o (by omega)] | rw [rst_o (by omega)] | rw [rnw_o (by omega)] | rw [putl_o (by omega)] | rw [fz_o (by omega)])]
      refine ⟨by omega, fun k k0 k1 => ?_⟩
      have z := p.2 k k0 (by omega)
      rw [show (A 61 2 + 8 - B 232 5 + k) % 8 = (i + 8 - (B 232 5 - 1) + k) % 8 by omega] at z
      generalize hx : (i + 8 - (B 232 5 - 1) + k) % 8 = x at *
      have xb : 0 ≤ x ∧ x < 8 := by omega
      exact SR_cg z (fun j _ _ => rst_o (by omega)) (fun j => rst_o (by omega)) (fun j _ _ => by repeat (first | rfl | rw [up_ne (by omega)] | rw [rem_o hA (by omega)] | rw [rmM_o (by omega)] | rw [fl_o (by omega)] | rw [tks_o (by omega)] | rw [cp_o (by omega)] | rw [rst_o (by omega)] | rw [rnw_o (by omega)] | rw [putl_o (by omega)] | rw [fz_o (by omega)])) n0
    show IV (rst A) (mx_cp (mx_up B 232 5 ((B 232 5) - 1)) 237 (12 * ((B 232 5) - 1)) 236 0 12)
    obtain ⟨a1, ⟨a21, a22, a23, a24⟩, ⟨a31, a32, a33⟩, a4, a5, a6, a7, a8⟩ := h
    have e233 : (mx_cp (mx_up B 232 5 ((B 232 5) - 1)) 237 (12 * ((B 232 5) - 1)) 236 0 12) 233 = B 233 := funext fun j => by repeat (first | rfl | rw [up_ne (by omega)] | rw [rem_o hA (by omega)] | rw [rmM_o (by omega)] | rw [fl_o (by omega)] | rw [tks_o (by omega)] | rw [cp_o (by omega)] | rw [rst_o (by omega)] | rw [rnw_o (by omega)] | rw [putl_o (by omega)] | rw [fz_o (by omega)])
    refine ⟨TX_cg a1 (fun a j z => by repeat (first | rfl | rw [up_ne (by omega)] | rw [rem_o hA (by omega)] | rw [rmM_o (by omega)] | rw [fl_o (by omega)] | rw [tks_o (by omega)] | rw [cp_o (by omega)] | rw [rst_o (by omega)] | rw [rnw_o (by omega)] | rw [putl_o (by omega)] | rw [fz_o (by omega)])) (fun a j z => by repeat (first | rfl | rw [up_ne (by omega)] | rw [rem_o hA (by omega)] | rw [rmM_o (by omega)] | rw [fl_o (by omega)] | rw [tks_o (by omega)] | rw [cp_o (by omega)] | rw [rst_o (by omega)] | rw [rnw_o (by omega)] | rw [putl_o (by omega)] | rw [fz_o (by omega)])), ?_, ?_, hN, hP, KP_cg a6 n0 (fun a j z => by repeat (first | rfl | rw [up_ne (by omega)] | rw [rem_o hA (by omega)] | rw [rmM_o (by omega)] | rw [fl_o (by omega)] | rw [tks_o (by omega)] | rw [cp_o (by omega)] | rw [rst_o (by omega)] | rw [rnw_o (by omega)] | rw [putl_o (by omega)] | rw [fz_o (by omega)])) (fun a j z => by repeat (first | rfl | rw [up_ne (by omega)] | rw [rem_o hA (by omega)] | rw [rmM_o (by omega)] | rw [fl_o (by omega)] | rw [tks_o (by omega)] | rw [cp_o (by omega)] | rw [rst_o (by omega)] | rw [rnw_o (by omega)] | rw [putl_o (by omega)] | rw [fz_o (by omega)])), SG_cg a7 (fun a j z => by repeat (first | rfl | rw [up_ne (by omega)] | rw [rem_o hA (by omega)] | rw [rmM_o (by omega)] | rw [fl_o (by omega)] | rw [tks_o (by omega)] | rw [cp_o (by omega)] | rw [rst_o (by omega)] | rw [rnw_o (by omega)] | rw [putl_o (by omega)] | rw [fz_o (by omega)])) (fun a j z => by repeat (first | rfl | rw [up_ne (by omega)] | rw [rem_o hA (by omega)] | rw [rmM_o (by omega)] | rw [fl_o (by omega)] | rw [tks_o (by omega)] | rw [cp_o (by omega)] | rw [rst_o (by omega)] | rw [rnw_o (by omega)] | rw [putl_o (by omega)] | rw [fz_o (by omega)])), SH_cg a8 (fun a j z => by repeat (first | rfl | rw [up_ne (by omega)] | rw [rem_o hA (by omega)] | rw [rmM_o (by omega)] | rw [fl_o (by omega)] | rw [tks_o (by omega)] | rw [cp_o (by omega)] | rw [rst_o (by omega)] | rw [rnw_o (by omega)] | rw [putl_o (by omega)] | rw [fz_o (by omega)])) (fun a j z => by repeat (first | rfl | rw [up_ne (by omega)] | rw [rem_o hA (by omega)] | rw [rmM_o (by omega)] | rw [fl_o (by omega)] | rw [tks_o (by omega)] | rw [cp_o (by omega)] | rw [rst_o (by omega)] | rw [rnw_o (by omega)] | rw [putl_o (by omega)] | rw [fz_o (by omega)]))⟩
    · rw [e233]; exact ⟨PA_cg a21 (PBB hB) (fun a j z => by repeat (first | rfl | rw [up_ne (by omega)] | rw [rem_o hA (by omega)] | rw [rmM_o (by omega)] | rw [fl_o (by omega)] | rw [tks_o (by omega)] | rw [cp_o (by omega)] | rw [rst_o (by omega)] | rw [rnw_o (by omega)] | rw [putl_o (by omega)] | rw [fz_o (by omega)])), a22, a23, a24⟩
    · rw [e233]; exact ⟨WY_cg a31 n0.2 (fun a j z => by repeat (first | rfl | rw [up_ne (by omega)] | rw [rem_o hA (by omega)] | rw [rmM_o (by omega)] | rw [fl_o (by omega)] | rw [tks_o (by omega)] | rw [cp_o (by omega)] | rw [rst_o (by omega)] | rw [rnw_o (by omega)] | rw [putl_o (by omega)] | rw [fz_o (by omega)])) (fun j => by repeat (first | rfl | rw [up_ne (by omega)] | rw [rem_o hA (by omega)] | rw [rmM_o (by omega)] | rw [fl_o (by omega)] | rw [tks_o (by omega)] | rw [cp_o (by omega)] | rw [rst_o (by omega)] | rw [rnw_o (by omega)] | rw [putl_o (by omega)] | rw [fz_o (by omega)])), TRI_cg a32 (fun j => by repeat (first | rfl | rw [up_ne (by omega)] | rw [rem_o hA (by omega)] | rw [rmM_o (by omega)] | rw [fl_o (by omega)] | rw [tks_o (by omega)] | rw [cp_o (by omega)] | rw [rst_o (by omega)] | rw [rnw_o (by omega)] | rw [putl_o (by omega)] | rw [fz_o (by omega)])), WB_cg a33 (fun j => by repeat (first | rfl | rw [up_ne (by omega)] | rw [rem_o hA (by omega)] | rw [rmM_o (by omega)] | rw [fl_o (by omega)] | rw [tks_o (by omega)] | rw [cp_o (by omega)] | rw [rst_o (by omega)] | rw [rnw_o (by omega)] | rw [putl_o (by omega)] | rw [fz_o (by omega)]))⟩
theorem s_keep (hA : Bd A) (hB : Bd B) (h : IV A B) {k : Int} : (w_X10_keep A k).1 = (w_X11_keep B k).1 ∧ IV (w_X10_keep A k).2 (w_X11_keep B k).2 := by
  have n0 : 0 ≤ B 233 0 ∧ B 233 0 ≤ 7 := hB 233 0
  have nn := iv_n h
  have st := iv_s h
  have t1 := h.1.1
  unfold w_X10_keep w_X11_keep
  by_cases hk : 0 ≤ k ∧ k ≤ 1
  · rw [if_neg (by omega), if_pos (by omega), if_pos hk]
    refine ⟨st.2.2.1, ?_⟩
    have kp := h.2.2.2.2.2.1
    have nw := h.2.2.2.1
    have hK : KPr (mx_up (tks A (220 + 2 * k) (59)) 80 k 1) (mx_up (mx_cp B 236 0 238 (12 * k) 12) 239 k 1) := by
      intro x x0 x1
      rw [show (mx_up (mx_cp B 236 0 238 (12 * k) 12) 239 k 1) 233 0 = B 233 0 from by repeat (first | rfl | rw [up_ne (by omega)] | rw [rem_o hA (by omega)] | rw [rmM_o (by omega)] | rw [fl_o (by omega)] | rw [tks_o (by omega)] | rw [cp_o (by omega)] | rw [rst_o (by omega)] | rw [rnw_o (by omega)] | rw [putl_o (by omega)] | rw [fz_o (by omega)])]
      by_cases e : x = k
      · subst e
        refine ⟨by rw [up_eq, up_eq], fun _ => SR_tr nw (fun j j0 j1 => ?_) (fun j j0 j1 => ?_) (fun j j0 j1 => ?_) n0⟩
        · rw [up_ne (by omega), tks_f ⟨j0, j1⟩]
        · rw [up_ne (by omega), tks_l rfl ⟨j0, j1⟩]
        · show (mx_up (mx_cp B 236 0 238 (12 * x) 12) 239 x 1) 238 (12 * x + j) = B 236 j
          rw [up_ne (by omega), cp_i (by omega)]; exact congrArg (B 236) (by omega)
      · have q := kp x x0 x1
        rw [up_ne (by omega), tks_o (by omega), up_ne (by omega), cp_o (by omega)]
        exact ⟨q.1, fun z => SR_cg (q.2 z) (fun j _ _ => by rw [up_ne (by omega), tks_o (by omega)]) (fun j => by rw [up_ne (by omega), tks_o (by omega)]) (fun j j0 j1 => by
          show (mx_up (mx_cp B 236 0 238 (12 * k) 12) 239 k 1) 238 (12 * x + j) = B 238 (12 * x + j)
          rw [up_ne (by omega), cp_ox (by omega)]) n0⟩
    show IV (mx_up (tks A (220 + 2 * k) (59)) 80 k 1) (mx_up (mx_cp B 236 0 238 (12 * k) 12) 239 k 1)
    obtain ⟨a1, ⟨a21, a22, a23, a24⟩, ⟨a31, a32, a33⟩, a4, a5, a6, a7, a8⟩ := h
    have e233 : (mx_up (mx_cp B 236 0 238 (12 * k) 12) 239 k 1) 233 = B 233 := funext fun j => by repeat (first | rfl | rw [up_ne (by omega)] | rw [rem_o hA (by omega)] | rw [rmM_o (by omega)] | rw [fl_o (by omega)] | rw [tks_o (by omega)] | rw [cp_o (by omega)] | rw [rst_o (by omega)] | rw [rnw_o (by omega)] | rw [putl_o (by omega)] | rw [fz_o (by omega)])
    refine ⟨TX_cg a1 (fun a j z => by repeat (first | rfl | rw [up_ne (by omega)] | rw [rem_o hA (by omega)] | rw [rmM_o (by omega)] | rw [fl_o (by omega)] | rw [tks_o (by omega)] | rw [cp_o (by omega)] | rw [rst_o (by omega)] | rw [rnw_o (by omega)] | rw [putl_o (by omega)] | rw [fz_o (by omega)])) (fun a j z => by repeat (first | rfl | rw [up_ne (by omega)] | rw [rem_o hA (by omega)] | rw [rmM_o (by omega)] | rw [fl_o (by omega)] | rw [tks_o (by omega)] | rw [cp_o (by omega)] | rw [rst_o (by omega)] | rw [rnw_o (by omega)] | rw [putl_o (by omega)] | rw [fz_o (by omega)])), ?_, ?_, NW_cg a4 n0 (fun a j z => by repeat (first | rfl | rw [up_ne (by omega)] | rw [rem_o hA (by omega)] | rw [rmM_o (by omega)] | rw [fl_o (by omega)] | rw [tks_o (by omega)] | rw [cp_o (by omega)] | rw [rst_o (by omega)] | rw [rnw_o (by omega)] | rw [putl_o (by omega)] | rw [fz_o (by omega)])) (fun a j z => by repeat (first | rfl | rw [up_ne (by omega)] | rw [rem_o hA (by omega)] | rw [rmM_o (by omega)] | rw [fl_o (by omega)] | rw [tks_o (by omega)] | rw [cp_o (by omega)] | rw [rst_o (by omega)] | rw [rnw_o (by omega)] | rw [putl_o (by omega)] | rw [fz_o (by omega)])), PS_cg a5 n0 (fun a j z => by repeat (first | rfl | rw [up_ne (by omega)] | rw [rem_o hA (by omega)] | rw [rmM_o (by omega)] | rw [fl_o (by omega)] | rw [tks_o (by omega)] | rw [cp_o (by omega)] | rw [rst_o (by omega)] | rw [rnw_o (by omega)] | rw [putl_o (by omega)] | rw [fz_o (by omega)])) (fun a j z => by repeat (first | rfl | rw [up_ne (by omega)] | rw [rem_o hA (by omega)] | rw [rmM_o (by omega)] | rw [fl_o (by omega)] | rw [tks_o (by omega)] | rw [cp_o (by omega)] | rw [rst_o (by omega)] | rw [rnw_o (by omega)] | rw [putl_o (by omega)] | rw [fz_o (by omega)])), hK, SG_cg a7 (fun a j z => by repeat (first | rfl | rw [up_ne (by omega)] | rw [rem_o hA (by omega)] | rw [rmM_o (by omega)] | rw [fl_o (by omega)] | rw [tks_o (by omega)] | rw [cp_o (by omega)] | rw [rst_o (by omega)] | rw [rnw_o (by omega)] | rw [putl_o (by omega)] | rw [fz_o (by omega)])) (fun a j z => by repeat (first | rfl | rw [up_ne (by omega)] | rw [rem_o hA (by omega)] | rw [rmM_o (by omega)] | rw [fl_o (by omega)] | rw [tks_o (by omega)] | rw [cp_o (by omega)] | rw [rst_o (by omega)] | rw [rnw_o (by omega)] | rw [putl_o (by omega)] | rw [fz_o (by omega)])), SH_cg a8 (fun a j z => by repeat (first | rfl | rw [up_ne (by omega)] | rw [rem_o hA (by omega)] | rw [rmM_o (by omega)] | rw [fl_o (by omega)] | rw [tks_o (by omega)] | rw [cp_o (by omega)] | rw [rst_o (by omega)] | rw [rnw_o (by omega)] | rw [putl_o (by omega)] | rw [fz_o (by omega)])) (fun a j z => by repeat (first | rfl | rw [up_ne (by omega)] | rw [rem_o hA (by omega)] | rw [rmM_o (by omega)] | rw [fl_o (by omega)] | rw [tks_o (by omega)] | rw [cp_o (by omega)] | rw [rst_o (by omega)] | rw [rnw_o (by omega)] | rw [putl_o (by omega)] | rw [fz_o (by omega)]))⟩
    · rw [e233]; exact ⟨PA_cg a21 (PBB hB) (fun a j z => by repeat (first | rfl | rw [up_ne (by omega)] | rw [rem_o hA (by omega)] | rw [rmM_o (by omega)] | rw [fl_o (by omega)] | rw [tks_o (by omega)] | rw [cp_o (by omega)] | rw [rst_o (by omega)] | rw [rnw_o (by omega)] | rw [putl_o (by omega)] | rw [fz_o (by omega)])), a22, a23, a24⟩
    · rw [e233]; exact ⟨WY_cg a31 n0.2 (fun a j z => by repeat (first | rfl | rw [up_ne (by omega)] | rw [rem_o hA (by omega)] | rw [rmM_o (by omega)] | rw [fl_o (by omega)] | rw [tks_o (by omega)] | rw [cp_o (by omega)] | rw [rst_o (by omega)] | rw [rnw_o (by omega)] | rw [putl_o (by omega)] | rw [fz_o (by omega)])) (fun j => by repeat (first | rfl | rw [up_ne (by omega)] | rw [rem_o hA (by omega)] | rw [rmM_o (by omega)] | rw [fl_o (by omega)] | rw [tks_o (by omega)] | rw [cp_o (by omega)] | rw [rst_o (by omega)] | rw [rnw_o (by omega)] | rw [putl_o (by omega)] | rw [fz_o (by omega)])), TRI_cg a32 (fun j => by repeat (first | rfl | rw [up_ne (by omega)] | rw [rem_o hA (by omega)] | rw [rmM_o (by omega)] | rw [fl_o (by omega)] | rw [tks_o (by omega)] | rw [cp_o (by omega)] | rw [rst_o (by omega)] | rw [rnw_o (by omega)] | rw [putl_o (by omega)] | rw [fz_o (by omega)])), WB_cg a33 (fun j => by repeat (first | rfl | rw [up_ne (by omega)] | rw [rem_o hA (by omega)] | rw [rmM_o (by omega)] | rw [fl_o (by omega)] | rw [tks_o (by omega)] | rw [cp_o (by omega)] | rw [rst_o (by omega)] | rw [rnw_o (by omega)] | rw [putl_o (by omega)] | rw [fz_o (by omega)]))⟩
  · rw [if_neg hk]
    by_cases k0 : k < 0
    · rw [if_pos k0]; exact ⟨rfl, h⟩
    · rw [if_neg k0, if_neg (by omega)]; exact ⟨rfl, h⟩
theorem s_back (hA : Bd A) (hB : Bd B) (h : IV A B) {k : Int} : (w_X10_back A k).1 = (w_X11_back B k).1 ∧ IV (w_X10_back A k).2 (w_X11_back B k).2 := by
  have n0 : 0 ≤ B 233 0 ∧ B 233 0 ≤ 7 := hB 233 0
  have nn := iv_n h
  have st := iv_s h
  have t1 := h.1.1
  unfold w_X10_back w_X11_back
  by_cases hk : 0 ≤ k ∧ k ≤ 1
  · have kp := h.2.2.2.2.2.1 k hk.1 (by omega)
    rw [if_neg (show ¬ k < 0 by omega), if_pos (show k < 2 by omega), if_pos hk]
    by_cases c : B 239 k = 0
    · rw [if_pos c, if_pos (by rw [kp.1]; exact c)]; exact ⟨rfl, h⟩
    · have sr := kp.2 (by rw [kp.1]; exact c)
      rw [if_neg c, if_neg (by rw [kp.1]; exact c)]
      have e3 : (tks A (59) (220 + 2 * k)) 59 3 = A (220 + 2 * k) 3 := tks_f (by omega)
      have e8 : (mx_cp B 238 (12 * k) 236 0 12) 236 8 = B 238 (12 * k + 8) := by rw [cp_i (by omega)]; exact congrArg (B 238) (by omega)
      refine ⟨by rw [e3, e8]; exact sr.2.2.1.2.2.1, ?_⟩
      have hN : NWr (mx_up (tks A (59) (220 + 2 * k)) 61 0 0) (mx_up (mx_cp B 238 (12 * k) 236 0 12) 232 5 0) := by
        unfold NWr
        rw [show (mx_up (mx_cp B 238 (12 * k) 236 0 12) 232 5 0) 233 0 = B 233 0 from by repeat (first | rfl | rw [up_ne (by omega)] | rw [rem_o hA (by omega)] | rw [rmM_o (by omega)] | rw [fl_o (by omega)] | rw [tks_o (by omega)] | rw [cp_o (by omega)] | rw [rst_o (by omega)] | rw [rnw_o (by omega)] | rw [putl_o (by omega)] | rw [fz_o (by omega)])]
        refine SR_tr sr (fun j j0 j1 => ?_) (fun j j0 j1 => ?_) (fun j j0 j1 => ?_) n0
        · rw [up_ne (by omega), tks_f ⟨j0, j1⟩]
        · rw [up_ne (by omega), tks_l rfl ⟨j0, j1⟩]
        · show (mx_up (mx_cp B 238 (12 * k) 236 0 12) 232 5 0) 236 j = B 238 (12 * k + j)
          rw [up_ne (by omega), cp_i (by omega)]; exact congrArg (B 238) (by omega)
      have hP : PSr (mx_up (tks A (59) (220 + 2 * k)) 61 0 0) (mx_up (mx_cp B 238 (12 * k) 236 0 12) 232 5 0) := by
        unfold PSr
        rw [show (mx_up (tks A (59) (220 + 2 * k)) 61 0 0) 61 0 = 0 from up_eq, show (mx_up (mx_cp B 238 (12 * k) 236 0 12) 232 5 0) 232 5 = 0 from up_eq]
        exact ⟨rfl, fun k k0 k1 => by omega⟩
      show IV (mx_up (tks A (59) (220 + 2 * k)) 61 0 0) (mx_up (mx_cp B 238 (12 * k) 236 0 12) 232 5 0)
      obtain ⟨a1, ⟨a21, a22, a23, a24⟩, ⟨a31, a32, a33⟩, a4, a5, a6, a7, a8⟩ := h
      have e233 : (mx_up (mx_cp B 238 (12 * k) 236 0 12) 232 5 0) 233 = B 233 := funext fun j => by repeat (first | rfl | rw [up_ne (by omega)] | rw [rem_o hA (by omega)] | rw [rmM_o (by omega)] | rw [fl_o (by omega)] | rw [tks_o (by omega)] | rw [cp_o (by omega)] | rw [rst_o (by omega)] | rw [rnw_o (by omega)] | rw [putl_o (by omega)] | rw [fz_o (by omega)])
      refine ⟨TX_cg a1 (fun a j z => by repeat (first | rfl | rw [up_ne (by omega)] | rw [rem_o hA (by omega)] | rw [rmM_o (by omega)] | rw [fl_o (by omega)] | rw [tks_o (by omega)] | rw [cp_o (by omega)] | rw [rst_o (by omega)] | rw [rnw_o (by omega)] | rw [putl_o (by omega)] | rw [fz_o (by omega)])) (fun a j z => by repeat (first | rfl | rw [up_ne (by omega)] | rw [rem_o hA (by omega)] | rw [rmM_o (by omega)] | rw [fl_o (by omega)] | rw [tks_o (by omega)] | rw [cp_o (by omega)] | rw [rst_o (by omega)] | rw [rnw_o (by omega)] | rw [putl_o (by omega)] | rw [fz_o (by omega)])), ?_, ?_, hN, hP, KP_cg a6 n0 (fun a j z => by repeat (first | rfl | rw [up_ne (by omega)] | rw [rem_o hA (by omega)] | rw [rmM_o (by omega)] | rw [fl_o (by omega)] | rw [tks_o (by omega)] | rw [cp_o (by omega)] | rw [rst_o (by omega)] | rw [rnw_o (by omega)] | rw [putl_o (by omega)] | rw [fz_o (by omega)])) (fun a j z => by repeat (first | rfl | rw [up_ne (by omega)] | rw [rem_o hA (by omega)] | rw [rmM_o (by omega)] | rw [fl_o (by omega)] | rw [tks_o (by omega)] | rw [cp_o (by omega)] | rw [rst_o (by omega)] | rw [rnw_o (by omega)] | rw [putl_o (by omega)] | rw [fz_o (by omega)])), SG_cg a7 (fun a j z => by repeat (first | rfl | rw [up_ne (by omega)] | rw [rem_o hA (by omega)] | rw [rmM_o (by omega)] | rw [fl_o (by omega)] | rw [tks_o (by omega)] | rw [cp_o (by omega)] | rw [rst_o (by omega)] | rw [rnw_o (by omega)] | rw [putl_o (by omega)] | rw [fz_o (by omega)])) (fun a j z => by repeat (first | rfl | rw [up_ne (by omega)] | rw [rem_o hA (by omega)] | rw [rmM_o (by omega)] | rw [fl_o (by omega)] | rw [tks_o (by omega)] | rw [cp_o (by omega)] | rw [rst_o (by omega)] | rw [rnw_o (by omega)] | rw [putl_o (by omega)] | rw [fz_o (by omega)])), SH_cg a8 (fun a j z => by repeat (first | rfl | rw [up_ne (by omega)] | rw [rem_o hA (by omega)] | rw [rmM_o (by omega)] | rw [fl_o (by omega)] | rw [tks_o (by omega)] | rw [cp_o (by omega)] | rw [rst_o (by omega)] | rw [rnw_o (by omega)] | rw [putl_o (by omega)] | rw [fz_o (by omega)])) (fun a j z => by repeat (first | rfl | rw [up_ne (by omega)] | rw [rem_o hA (by omega)] | rw [rmM_o (by omega)] | rw [fl_o (by omega)] | rw [tks_o (by omega)] | rw [cp_o (by omega)] | rw [rst_o (by omega)] | rw [rnw_o (by omega)] | rw [putl_o (by omega)] | rw [fz_o (by omega)]))⟩
      · rw [e233]; exact ⟨PA_cg a21 (PBB hB) (fun a j z => by repeat (first | rfl | rw [up_ne (by omega)] | rw [rem_o hA (by omega)] | rw [rmM_o (by omega)] | rw [fl_o (by omega)] | rw [tks_o (by omega)] | rw [cp_o (by omega)] | rw [rst_o (by omega)] | rw [rnw_o (by omega)] | rw [putl_o (by omega)] | rw [fz_o (by omega)])), a22, a23, a24⟩
      · rw [e233]; exact ⟨WY_cg a31 n0.2 (fun a j z => by repeat (first | rfl | rw [up_ne (by omega)] | rw [rem_o hA (by omega)] | rw [rmM_o (by omega)] | rw [fl_o (by omega)] | rw [tks_o (by omega)] | rw [cp_o (by omega)] | rw [rst_o (by omega)] | rw [rnw_o (by omega)] | rw [putl_o (by omega)] | rw [fz_o (by omega)])) (fun j => by repeat (first | rfl | rw [up_ne (by omega)] | rw [rem_o hA (by omega)] | rw [rmM_o (by omega)] | rw [fl_o (by omega)] | rw [tks_o (by omega)] | rw [cp_o (by omega)] | rw [rst_o (by omega)] | rw [rnw_o (by omega)] | rw [putl_o (by omega)] | rw [fz_o (by omega)])), TRI_cg a32 (fun j => by repeat (first | rfl | rw [up_ne (by omega)] | rw [rem_o hA (by omega)] | rw [rmM_o (by omega)] | rw [fl_o (by omega)] | rw [tks_o (by omega)] | rw [cp_o (by omega)] | rw [rst_o (by omega)] | rw [rnw_o (by omega)] | rw [putl_o (by omega)] | rw [fz_o (by omega)])), WB_cg a33 (fun j => by repeat (first | rfl | rw [up_ne (by omega)] | rw [rem_o hA (by omega)] | rw [rmM_o (by omega)] | rw [fl_o (by omega)] | rw [tks_o (by omega)] | rw [cp_o (by omega)] | rw [rst_o (by omega)] | rw [rnw_o (by omega)] | rw [putl_o (by omega)] | rw [fz_o (by omega)]))⟩
  · rw [if_neg hk]
    by_cases k0 : k < 0
    · rw [if_pos k0]; exact ⟨rfl, h⟩
    · rw [if_neg k0, if_neg (by omega)]; exact ⟨rfl, h⟩
theorem lr_e (h : IV A B) (s l : Int) : v_X10_laneRefusal A s l = lfM B s l := by
  unfold v_X10_laneRefusal lfM v_X11_found
  by_cases hs : 0 ≤ s ∧ s < 4
  · rw [if_pos hs, if_pos (show 0 ≤ s ∧ s ≤ 3 by omega)]
    by_cases hl : 0 ≤ l ∧ l < 3
    · rw [if_pos hl, if_pos (show 0 ≤ l ∧ l ≤ 2 by omega)]
      rcases h.2.2.2.2.2.2.2 s hs.1 hs.2 with ⟨a, b⟩ | ⟨a, b, c, d, e⟩
      · rw [if_pos a, if_pos (by omega)]
      · rw [if_neg (by omega), if_neg (show ¬ B 243 s < 0 by omega), d]
    · rw [if_neg hl, if_neg (by omega)]
  · rw [if_neg hs, if_neg (by omega)]
theorem s_shelf (hA : Bd A) (hB : Bd B) (h : IV A B) {s l n : Int} : (w_X10_shelf A s l n).1 = (w_X11_shelf B s l n).1 ∧ IV (w_X10_shelf A s l n).2 (w_X11_shelf B s l n).2 := by
  have n0 : 0 ≤ B 233 0 ∧ B 233 0 ≤ 7 := hB 233 0
  have nn := iv_n h
  have st := iv_s h
  have t1 := h.1.1
  unfold w_X10_shelf w_X11_shelf
  by_cases hs : 0 ≤ s ∧ s < 4
  · rw [if_pos hs, if_pos (show 0 ≤ s ∧ s ≤ 3 by omega)]
    by_cases hl : 0 ≤ l ∧ l < 3
    · rw [if_pos hl, if_pos (show 0 ≤ l ∧ l ≤ 2 by omega)]
      by_cases c1 : 24 < n
      · rw [if_pos c1, if_pos c1]; exact ⟨rfl, h⟩
      rw [if_neg c1, if_neg c1]
      by_cases c2 : n < 0
      · rw [if_pos c2, if_pos c2]; exact ⟨rfl, h⟩
      rw [if_neg c2, if_neg c2]
      refine ⟨rfl, ?_⟩
      have sh := h.2.2.2.2.2.2.2
      have hS : SHr (rnw A s l n) (mx_up (mx_up (fz B 244 (24 * s) 24) 242 s l) 243 s n) := by
        intro x x0 x1
        by_cases e : x = s
        · rw [e]
          refine Or.inr ⟨?_, by rw [up_eq]; omega, ?_, ?_, fun i i0 i1 => ?_⟩
          · unfold rnw; rw [fl_o (by omega), up_ne (by omega), up_ne (by omega), up_eq]
          · unfold rnw; rw [fl_o (by omega), up_eq, up_eq]
          · unfold rnw; rw [fl_o (by omega), up_ne (by omega), up_eq, up_ne (by omega), up_eq]
          · unfold rnw; rw [fl_i (by omega), up_ne (by omega), up_ne (by omega), fz_i (by omega)]
        · exact SH1_cg (sh x x0 x1) (fun j => by repeat (first | rfl | rw [up_ne (by omega)] | rw [rem_o hA (by omega)] | rw [rmM_o (by omega)] | rw [fl_o (by omega)] | rw [tks_o (by omega)] | rw [cp_o (by omega)] | rw [rst_o (by omega)] | rw [rnw_o (by omega)] | rw [putl_o (by omega)] | rw [fz_o (by omega)])) (fun j => by repeat (first | rfl | rw [up_ne (by omega)] | rw [rem_o hA (by omega)] | rw [rmM_o (by omega)] | rw [fl_o (by omega)] | rw [tks_o (by omega)] | rw [cp_o (by omega)] | rw [rst_o (by omega)] | rw [rnw_o (by omega)] | rw [putl_o (by omega)] | rw [fz_o (by omega)])) (by repeat (first | rfl | rw [up_ne (by omega)] | rw [rem_o hA (by omega)] | rw [rmM_o (by omega)] | rw [fl_o (by omega)] | rw [tks_o (by omega)] | rw [cp_o (by omega)] | rw [rst_o (by omega)] | rw [rnw_o (by omega)] | rw [putl_o (by omega)] | rw [fz_o (by omega)])) (by repeat (first | rfl | rw [up_ne (by omega)] | rw [rem_o hA (by omega)] | rw [rmM_o (by omega)] | rw [fl_o (by omega)] | rw [tks_o (by omega)] | rw [cp_o (by omega)] | rw [rst_o (by omega)] | rw [rnw_o (by omega)] | rw [putl_o (by omega)] | rw [fz_o (by omega)])) (fun j j0 j1 => by rw [up_ne (by omega), up_ne (by omega), fz_ox (by omega)])
      show IV (rnw A s l n) (mx_up (mx_up (fz B 244 (24 * s) 24) 242 s l) 243 s n)
      obtain ⟨a1, ⟨a21, a22, a23, a24⟩, ⟨a31, a32, a33⟩, a4, a5, a6, a7, a8⟩ := h
      have e233 : (mx_up (mx_up (fz B 244 (24 * s) 24) 242 s l) 243 s n) 233 = B 233 := funext fun j => by repeat (first | rfl | rw [up_ne (by omega)] | rw [rem_o hA (by omega)] | rw [rmM_o (by omega)] | rw [fl_o (by omega)] | rw [tks_o (by omega)] | rw [cp_o (by omega)] | rw [rst_o (by omega)] | rw [rnw_o (by omega)] | rw [putl_o (by omega)] | rw [fz_o (by omega)])
      refine ⟨TX_cg a1 (fun a j z => by repeat (first | rfl | rw [up_ne (by omega)] | rw [rem_o hA (by omega)] | rw [rmM_o (by omega)] | rw [fl_o (by omega)] | rw [tks_o (by omega)] | rw [cp_o (by omega)] | rw [rst_o (by omega)] | rw [rnw_o (by omega)] | rw [putl_o (by omega)] | rw [fz_o (by omega)])) (fun a j z => by repeat (first | rfl | rw [up_ne (by omega)] | rw [rem_o hA (by omega)] | rw [rmM_o (by omega)] | rw [fl_o (by omega)] | rw [tks_o (by omega)] | rw [cp_o (by omega)] | rw [rst_o (by omega)] | rw [rnw_o (by omega)] | rw [putl_o (by omega)] | rw [fz_o (by omega)])), ?_, ?_, NW_cg a4 n0 (fun a j z => by repeat (first | rfl | rw [up_ne (by omega)] | rw [rem_o hA (by omega)] | rw [rmM_o (by omega)] | rw [fl_o (by omega)] | rw [tks_o (by omega)] | rw [cp_o (by omega)] | rw [rst_o (by omega)] | rw [rnw_o (by omega)] | rw [putl_o (by omega)] | rw [fz_o (by omega)])) (fun a j z => by repeat (first | rfl | rw [up_ne (by omega)] | rw [rem_o hA (by omega)] | rw [rmM_o (by omega)] | rw [fl_o (by omega)] | rw [tks_o (by omega)] | rw [cp_o (by omega)] | rw [rst_o (by omega)] | rw [rnw_o (by omega)] | rw [putl_o (by omega)] | rw [fz_o (by omega)])), PS_cg a5 n0 (fun a j z => by repeat (first | rfl | rw [up_ne (by omega)] | rw [rem_o hA (by omega)] | rw [rmM_o (by omega)] | rw [fl_o (by omega)] | rw [tks_o (by omega)] | rw [cp_o (by omega)] | rw [rst_o (by omega)] | rw [rnw_o (by omega)] | rw [putl_o (by omega)] | rw [fz_o (by omega)])) (fun a j z => by repeat (first | rfl | rw [up_ne (by omega)] | rw [rem_o hA (by omega)] | rw [rmM_o (by omega)] | rw [fl_o (by omega)] | rw [tks_o (by omega)] | rw [cp_o (by omega)] | rw [rst_o (by omega)] | rw [rnw_o (by omega)] | rw [putl_o (by omega)] | rw [fz_o (by omega)])), KP_cg a6 n0 (fun a j z => by repeat (first | rfl | rw [up_ne (by omega)] | rw [rem_o hA (by omega)] | rw [rmM_o (by omega)] | rw [fl_o (by omega)] | rw [tks_o (by omega)] | rw [cp_o (by omega)] | rw [rst_o (by omega)] | rw [rnw_o (by omega)] | rw [putl_o (by omega)] | rw [fz_o (by omega)])) (fun a j z => by repeat (first | rfl | rw [up_ne (by omega)] | rw [rem_o hA (by omega)] | rw [rmM_o (by omega)] | rw [fl_o (by omega)] | rw [tks_o (by omega)] | rw [cp_o (by omega)] | rw [rst_o (by omega)] | rw [rnw_o (by omega)] | rw [putl_o (by omega)] | rw [fz_o (by omega)])), SG_cg a7 (fun a j z => by repeat (first | rfl | rw [up_ne (by omega)] | rw [rem_o hA (by omega)] | rw [rmM_o (by omega)] | rw [fl_o (by omega)] | rw [tks_o (by omega)] | rw [cp_o (by omega)] | rw [rst_o (by omega)] | rw [rnw_o (by omega)] | rw [putl_o (by omega)] | rw [fz_o (by omega)])) (fun a j z => by repeat (first | rfl | rw [up_ne (by omega)] | rw [rem_o hA (by omega)] | rw [rmM_o (by omega)] | rw [fl_o (by omega)] | rw [tks_o (by omega)] | rw [cp_o (by omega)] | rw [rst_o (by omega)] | rw [rnw_o (by omega)] | rw [putl_o (by omega)] | rw [fz_o (by omega)])), hS⟩
      · rw [e233]; exact ⟨PA_cg a21 (PBB hB) (fun a j z => by repeat (first | rfl | rw [up_ne (by omega)] | rw [rem_o hA (by omega)] | rw [rmM_o (by omega)] | rw [fl_o (by omega)] | rw [tks_o (by omega)] | rw [cp_o (by omega)] | rw [rst_o (by omega)] | rw [rnw_o (by omega)] | rw [putl_o (by omega)] | rw [fz_o (by omega)])), a22, a23, a24⟩
      · rw [e233]; exact ⟨WY_cg a31 n0.2 (fun a j z => by repeat (first | rfl | rw [up_ne (by omega)] | rw [rem_o hA (by omega)] | rw [rmM_o (by omega)] | rw [fl_o (by omega)] | rw [tks_o (by omega)] | rw [cp_o (by omega)] | rw [rst_o (by omega)] | rw [rnw_o (by omega)] | rw [putl_o (by omega)] | rw [fz_o (by omega)])) (fun j => by repeat (first | rfl | rw [up_ne (by omega)] | rw [rem_o hA (by omega)] | rw [rmM_o (by omega)] | rw [fl_o (by omega)] | rw [tks_o (by omega)] | rw [cp_o (by omega)] | rw [rst_o (by omega)] | rw [rnw_o (by omega)] | rw [putl_o (by omega)] | rw [fz_o (by omega)])), TRI_cg a32 (fun j => by repeat (first | rfl | rw [up_ne (by omega)] | rw [rem_o hA (by omega)] | rw [rmM_o (by omega)] | rw [fl_o (by omega)] | rw [tks_o (by omega)] | rw [cp_o (by omega)] | rw [rst_o (by omega)] | rw [rnw_o (by omega)] | rw [putl_o (by omega)] | rw [fz_o (by omega)])), WB_cg a33 (fun j => by repeat (first | rfl | rw [up_ne (by omega)] | rw [rem_o hA (by omega)] | rw [rmM_o (by omega)] | rw [fl_o (by omega)] | rw [tks_o (by omega)] | rw [cp_o (by omega)] | rw [rst_o (by omega)] | rw [rnw_o (by omega)] | rw [putl_o (by omega)] | rw [fz_o (by omega)]))⟩
    · rw [if_neg hl, if_neg (by omega)]; exact ⟨rfl, h⟩
  · rw [if_neg hs, if_neg (by omega)]; exact ⟨rfl, h⟩
theorem s_drop (hA : Bd A) (hB : Bd B) (h : IV A B) {s : Int} : (w_X10_drop A s).1 = (w_X11_drop B s).1 ∧ IV (w_X10_drop A s).2 (w_X11_drop B s).2 := by
  have n0 : 0 ≤ B 233 0 ∧ B 233 0 ≤ 7 := hB 233 0
  have nn := iv_n h
  have st := iv_s h
  have t1 := h.1.1
  unfold w_X10_drop w_X11_drop
  by_cases hs : 0 ≤ s ∧ s < 4
  · have sh := h.2.2.2.2.2.2.2
    have s1 := sh s hs.1 hs.2
    rw [if_pos hs, if_pos (show 0 ≤ s ∧ s ≤ 3 by omega)]
    rcases s1 with ⟨a, b⟩ | ⟨a, b, c, d, e⟩
    · rw [if_pos a, if_pos (by omega)]; exact ⟨rfl, h⟩
    · rw [if_neg (by omega), if_neg (by omega)]
      refine ⟨c, ?_⟩
      have hS : SHr (mx_up A (224 + 2 * s) 0 0) (mx_up B 243 s (-1)) := by
        intro x x0 x1
        by_cases e : x = s
        · rw [e]; exact Or.inl ⟨up_eq, up_eq⟩
        · exact SH1_cg (sh x x0 x1) (fun j => by repeat (first | rfl | rw [up_ne (by omega)] | rw [rem_o hA (by omega)] | rw [rmM_o (by omega)] | rw [fl_o (by omega)] | rw [tks_o (by omega)] | rw [cp_o (by omega)] | rw [rst_o (by omega)] | rw [rnw_o (by omega)] | rw [putl_o (by omega)] | rw [fz_o (by omega)])) (fun j => by repeat (first | rfl | rw [up_ne (by omega)] | rw [rem_o hA (by omega)] | rw [rmM_o (by omega)] | rw [fl_o (by omega)] | rw [tks_o (by omega)] | rw [cp_o (by omega)] | rw [rst_o (by omega)] | rw [rnw_o (by omega)] | rw [putl_o (by omega)] | rw [fz_o (by omega)])) (by repeat (first | rfl | rw [up_ne (by omega)] | rw [rem_o hA (by omega)] | rw [rmM_o (by omega)] | rw [fl_o (by omega)] | rw [tks_o (by omega)] | rw [cp_o (by omega)] | rw [rst_o (by omega)] | rw [rnw_o (by omega)] | rw [putl_o (by omega)] | rw [fz_o (by omega)])) (by repeat (first | rfl | rw [up_ne (by omega)] | rw [rem_o hA (by omega)] | rw [rmM_o (by omega)] | rw [fl_o (by omega)] | rw [tks_o (by omega)] | rw [cp_o (by omega)] | rw [rst_o (by omega)] | rw [rnw_o (by omega)] | rw [putl_o (by omega)] | rw [fz_o (by omega)])) (fun j j0 j1 => by repeat (first | rfl | rw [up_ne (by omega)] | rw [rem_o hA (by omega)] | rw [rmM_o (by omega)] | rw [fl_o (by omega)] | rw [tks_o (by omega)] | rw [cp_o (by omega)] | rw [rst_o (by omega)] | rw [rnw_o (by omega)] | rw [putl_o (by omega)] | rw [fz_o (by omega)]))
      show IV (mx_up A (224 + 2 * s) 0 0) (mx_up B 243 s (-1))
      obtain ⟨a1, ⟨a21, a22, a23, a24⟩, ⟨a31, a32, a33⟩, a4, a5, a6, a7, a8⟩ := h
      have e233 : (mx_up B 243 s (-1)) 233 = B 233 := funext fun j => by repeat (first | rfl | rw [up_ne (by omega)] | rw [rem_o hA (by omega)] | rw [rmM_o (by omega)] | rw [fl_o (by omega)] | rw [tks_o (by omega)] | rw [cp_o (by omega)] | rw [rst_o (by omega)] | rw [rnw_o (by omega)] | rw [putl_o (by omega)] | rw [fz_o (by omega)])
      refine ⟨TX_cg a1 (fun a j z => by repeat (first | rfl | rw [up_ne (by omega)] | rw [rem_o hA (by omega)] | rw [rmM_o (by omega)] | rw [fl_o (by omega)] | rw [tks_o (by omega)] | rw [cp_o (by omega)] | rw [rst_o (by omega)] | rw [rnw_o (by omega)] | rw [putl_o (by omega)] | rw [fz_o (by omega)])) (fun a j z => by repeat (first | rfl | rw [up_ne (by omega)] | rw [rem_o hA (by omega)] | rw [rmM_o (by omega)] | rw [fl_o (by omega)] | rw [tks_o (by omega)] | rw [cp_o (by omega)] | rw [rst_o (by omega)] | rw [rnw_o (by omega)] | rw [putl_o (by omega)] | rw [fz_o (by omega)])), ?_, ?_, NW_cg a4 n0 (fun a j z => by repeat (first | rfl | rw [up_ne (by omega)] | rw [rem_o hA (by omega)] | rw [rmM_o (by omega)] | rw [fl_o (by omega)] | rw [tks_o (by omega)] | rw [cp_o (by omega)] | rw [rst_o (by omega)] | rw [rnw_o (by omega)] | rw [putl_o (by omega)] | rw [fz_o (by omega)])) (fun a j z => by repeat (first | rfl | rw [up_ne (by omega)] | rw [rem_o hA (by omega)] | rw [rmM_o (by omega)] | rw [fl_o (by omega)] | rw [tks_o (by omega)] | rw [cp_o (by omega)] | rw [rst_o (by omega)] | rw [rnw_o (by omega)] | rw [putl_o (by omega)] | rw [fz_o (by omega)])), PS_cg a5 n0 (fun a j z => by repeat (first | rfl | rw [up_ne (by omega)] | rw [rem_o hA (by omega)] | rw [rmM_o (by omega)] | rw [fl_o (by omega)] | rw [tks_o (by omega)] | rw [cp_o (by omega)] | rw [rst_o (by omega)] | rw [rnw_o (by omega)] | rw [putl_o (by omega)] | rw [fz_o (by omega)])) (fun a j z => by repeat (first | rfl | rw [up_ne (by omega)] | rw [rem_o hA (by omega)] | rw [rmM_o (by omega)] | rw [fl_o (by omega)] | rw [tks_o (by omega)] | rw [cp_o (by omega)] | rw [rst_o (by omega)] | rw [rnw_o (by omega)] | rw [putl_o (by omega)] | rw [fz_o (by omega)])), KP_cg a6 n0 (fun a j z => by repeat (first | rfl | rw [up_ne (by omega)] | rw [rem_o hA (by omega)] | rw [rmM_o (by omega)] | rw [fl_o (by omega)] | rw [tks_o (by omega)] | rw [cp_o (by omega)] | rw [rst_o (by omega)] | rw [rnw_o (by omega)] | rw [putl_o (by omega)] | rw [fz_o (by omega)])) (fun a j z => by repeat (first | rfl | rw [up_ne (by omega)] | rw [rem_o hA (by omega)] | rw [rmM_o (by omega)] | rw [fl_o (by omega)] | rw [tks_o (by omega)] | rw [cp_o (by omega)] | rw [rst_o (by omega)] | rw [rnw_o (by omega)] | rw [putl_o (by omega)] | rw [fz_o (by omega)])), SG_cg a7 (fun a j z => by repeat (first | rfl | rw [up_ne (by omega)] | rw [rem_o hA (by omega)] | rw [rmM_o (by omega)] | rw [fl_o (by omega)] | rw [tks_o (by omega)] | rw [cp_o (by omega)] | rw [rst_o (by omega)] | rw [rnw_o (by omega)] | rw [putl_o (by omega)] | rw [fz_o (by omega)])) (fun a j z => by repeat (first | rfl | rw [up_ne (by omega)] | rw [rem_o hA (by omega)] | rw [rmM_o (by omega)] | rw [fl_o (by omega)] | rw [tks_o (by omega)] | rw [cp_o (by omega)] | rw [rst_o (by omega)] | rw [rnw_o (by omega)] | rw [putl_o (by omega)] | rw [fz_o (by omega)])), hS⟩
      · rw [e233]; exact ⟨PA_cg a21 (PBB hB) (fun a j z => by repeat (first | rfl | rw [up_ne (by omega)] | rw [rem_o hA (by omega)] | rw [rmM_o (by omega)] | rw [fl_o (by omega)] | rw [tks_o (by omega)] | rw [cp_o (by omega)] | rw [rst_o (by omega)] | rw [rnw_o (by omega)] | rw [putl_o (by omega)] | rw [fz_o (by omega)])), a22, a23, a24⟩
      · rw [e233]; exact ⟨WY_cg a31 n0.2 (fun a j z => by repeat (first | rfl | rw [up_ne (by omega)] | rw [rem_o hA (by omega)] | rw [rmM_o (by omega)] | rw [fl_o (by omega)] | rw [tks_o (by omega)] | rw [cp_o (by omega)] | rw [rst_o (by omega)] | rw [rnw_o (by omega)] | rw [putl_o (by omega)] | rw [fz_o (by omega)])) (fun j => by repeat (first | rfl | rw [up_ne (by omega)] | rw [rem_o hA (by omega)] | rw [rmM_o (by omega)] | rw [fl_o (by omega)] | rw [tks_o (by omega)] | rw [cp_o (by omega)] | rw [rst_o (by omega)] | rw [rnw_o (by omega)] | rw [putl_o (by omega)] | rw [fz_o (by omega)])), TRI_cg a32 (fun j => by repeat (first | rfl | rw [up_ne (by omega)] | rw [rem_o hA (by omega)] | rw [rmM_o (by omega)] | rw [fl_o (by omega)] | rw [tks_o (by omega)] | rw [cp_o (by omega)] | rw [rst_o (by omega)] | rw [rnw_o (by omega)] | rw [putl_o (by omega)] | rw [fz_o (by omega)])), WB_cg a33 (fun j => by repeat (first | rfl | rw [up_ne (by omega)] | rw [rem_o hA (by omega)] | rw [rmM_o (by omega)] | rw [fl_o (by omega)] | rw [tks_o (by omega)] | rw [cp_o (by omega)] | rw [rst_o (by omega)] | rw [rnw_o (by omega)] | rw [putl_o (by omega)] | rw [fz_o (by omega)]))⟩
  · rw [if_neg hs, if_neg (by omega)]; exact ⟨rfl, h⟩
theorem s_lay (hA : Bd A) (hB : Bd B) (h : IV A B) {s l i v : Int} : (w_X10_lay A s l i v).1 = (w_X11_lay B s l i v).1 ∧ IV (w_X10_lay A s l i v).2 (w_X11_lay B s l i v).2 := by
  have n0 : 0 ≤ B 233 0 ∧ B 233 0 ≤ 7 := hB 233 0
  have nn := iv_n h
  have st := iv_s h
  have t1 := h.1.1
  have lr := lr_e h s l
  unfold w_X10_lay w_X11_lay
  by_cases hs : 0 ≤ s ∧ s ≤ 3
  · rw [if_pos hs]
    by_cases hl : 0 ≤ l ∧ l ≤ 2
    · rw [if_pos hl]
      have lr2 : v_X10_laneRefusal A s l = v_X11_found B s l := by rw [lr]; unfold lfM; rw [if_pos hs, if_pos hl]
      rw [lr2]
      by_cases c : v_X11_found B s l = 0
      · rw [if_pos c, if_pos c]
        have sh := h.2.2.2.2.2.2.2
        have s1 := sh s hs.1 (by omega)
        have f0 := fnd_0 c
        rcases s1 with ⟨a, b⟩ | ⟨a, b, cc, d, e⟩
        · omega
        have b24 : -1 ≤ B 243 s ∧ B 243 s ≤ 24 := hB 243 s
        by_cases ci : 0 ≤ i ∧ i ≤ B 243 s - 1
        · rw [if_pos (by omega), if_pos ci]
          refine ⟨rfl, ?_⟩
          have hS : SHr (putl A s i v) (mx_up B 244 ((24 * s) + i) (cutl l v)) := by
            intro x x0 x1
            by_cases z : x = s
            · rw [z]
              refine Or.inr ⟨by rw [putl_o (by omega)]; exact a, by rw [up_ne (by omega)]; exact b, by rw [putl_o (by omega), up_ne (by omega)]; exact cc, by rw [putl_o (by omega), up_ne (by omega)]; exact d, fun y y0 y1 => ?_⟩
              unfold putl
              by_cases w : y = i
              · rw [w, up_eq, up_eq, d, f0.2]
              · rw [up_ne (by omega), up_ne (by omega)]; exact e y y0 y1
            · exact SH1_cg (sh x x0 x1) (fun j => by repeat (first | rfl | rw [up_ne (by omega)] | rw [rem_o hA (by omega)] | rw [rmM_o (by omega)] | rw [fl_o (by omega)] | rw [tks_o (by omega)] | rw [cp_o (by omega)] | rw [rst_o (by omega)] | rw [rnw_o (by omega)] | rw [putl_o (by omega)] | rw [fz_o (by omega)])) (fun j => by repeat (first | rfl | rw [up_ne (by omega)] | rw [rem_o hA (by omega)] | rw [rmM_o (by omega)] | rw [fl_o (by omega)] | rw [tks_o (by omega)] | rw [cp_o (by omega)] | rw [rst_o (by omega)] | rw [rnw_o (by omega)] | rw [putl_o (by omega)] | rw [fz_o (by omega)])) (by repeat (first | rfl | rw [up_ne (by omega)] | rw [rem_o hA (by omega)] | rw [rmM_o (by omega)] | rw [fl_o (by omega)] | rw [tks_o (by omega)] | rw [cp_o (by omega)] | rw [rst_o (by omega)] | rw [rnw_o (by omega)] | rw [putl_o (by omega)] | rw [fz_o (by omega)])) (by repeat (first | rfl | rw [up_ne (by omega)] | rw [rem_o hA (by omega)] | rw [rmM_o (by omega)] | rw [fl_o (by omega)] | rw [tks_o (by omega)] | rw [cp_o (by omega)] | rw [rst_o (by omega)] | rw [rnw_o (by omega)] | rw [putl_o (by omega)] | rw [fz_o (by omega)])) (fun j j0 j1 => by repeat (first | rfl | rw [up_ne (by omega)] | rw [rem_o hA (by omega)] | rw [rmM_o (by omega)] | rw [fl_o (by omega)] | rw [tks_o (by omega)] | rw [cp_o (by omega)] | rw [rst_o (by omega)] | rw [rnw_o (by omega)] | rw [putl_o (by omega)] | rw [fz_o (by omega)]))
          show IV (putl A s i v) (mx_up B 244 ((24 * s) + i) (cutl l v))
          obtain ⟨a1, ⟨a21, a22, a23, a24⟩, ⟨a31, a32, a33⟩, a4, a5, a6, a7, a8⟩ := h
          have e233 : (mx_up B 244 ((24 * s) + i) (cutl l v)) 233 = B 233 := funext fun j => by repeat (first | rfl | rw [up_ne (by omega)] | rw [rem_o hA (by omega)] | rw [rmM_o (by omega)] | rw [fl_o (by omega)] | rw [tks_o (by omega)] | rw [cp_o (by omega)] | rw [rst_o (by omega)] | rw [rnw_o (by omega)] | rw [putl_o (by omega)] | rw [fz_o (by omega)])
          refine ⟨TX_cg a1 (fun a j z => by repeat (first | rfl | rw [up_ne (by omega)] | rw [rem_o hA (by omega)] | rw [rmM_o (by omega)] | rw [fl_o (by omega)] | rw [tks_o (by omega)] | rw [cp_o (by omega)] | rw [rst_o (by omega)] | rw [rnw_o (by omega)] | rw [putl_o (by omega)] | rw [fz_o (by omega)])) (fun a j z => by repeat (first | rfl | rw [up_ne (by omega)] | rw [rem_o hA (by omega)] | rw [rmM_o (by omega)] | rw [fl_o (by omega)] | rw [tks_o (by omega)] | rw [cp_o (by omega)] | rw [rst_o (by omega)] | rw [rnw_o (by omega)] | rw [putl_o (by omega)] | rw [fz_o (by omega)])), ?_, ?_, NW_cg a4 n0 (fun a j z => by repeat (first | rfl | rw [up_ne (by omega)] | rw [rem_o hA (by omega)] | rw [rmM_o (by omega)] | rw [fl_o (by omega)] | rw [tks_o (by omega)] | rw [cp_o (by omega)] | rw [rst_o (by omega)] | rw [rnw_o (by omega)] | rw [putl_o (by omega)] | rw [fz_o (by omega)])) (fun a j z => by repeat (first | rfl | rw [up_ne (by omega)] | rw [rem_o hA (by omega)] | rw [rmM_o (by omega)] | rw [fl_o (by omega)] | rw [tks_o (by omega)] | rw [cp_o (by omega)] | rw [rst_o (by omega)] | rw [rnw_o (by omega)] | rw [putl_o (by omega)] | rw [fz_o (by omega)])), PS_cg a5 n0 (fun a j z => by repeat (first | rfl | rw [up_ne (by omega)] | rw [rem_o hA (by omega)] | rw [rmM_o (by omega)] | rw [fl_o (by omega)] | rw [tks_o (by omega)] | rw [cp_o (by omega)] | rw [rst_o (by omega)] | rw [rnw_o (by omega)] | rw [putl_o (by omega)] | rw [fz_o (by omega)])) (fun a j z => by repeat (first | rfl | rw [up_ne (by omega)] | rw [rem_o hA (by omega)] | rw [rmM_o (by omega)] | rw [fl_o (by omega)] | rw [tks_o (by omega)] | rw [cp_o (by omega)] | rw [rst_o (by omega)] | rw [rnw_o (by omega)] | rw [putl_o (by omega)] | rw [fz_o (by omega)])), KP_cg a6 n0 (fun a j z => by repeat (first | rfl | rw [up_ne (by omega)] | rw [rem_o hA (by omega)] | rw [rmM_o (by omega)] | rw [fl_o (by omega)] | rw [tks_o (by omega)] | rw [cp_o (by omega)] | rw [rst_o (by omega)] | rw [rnw_o (by omega)] | rw [putl_o (by omega)] | rw [fz_o (by omega)])) (fun a j z => by repeat (first | rfl | rw [up_ne (by omega)] | rw [rem_o hA (by omega)] | rw [rmM_o (by omega)] | rw [fl_o (by omega)] | rw [tks_o (by omega)] | rw [cp_o (by omega)] | rw [rst_o (by omega)] | rw [rnw_o (by omega)] | rw [putl_o (by omega)] | rw [fz_o (by omega)])), SG_cg a7 (fun a j z => by repeat (first | rfl | rw [up_ne (by omega)] | rw [rem_o hA (by omega)] | rw [rmM_o (by omega)] | rw [fl_o (by omega)] | rw [tks_o (by omega)] | rw [cp_o (by omega)] | rw [rst_o (by omega)] | rw [rnw_o (by omega)] | rw [putl_o (by omega)] | rw [fz_o (by omega)])) (fun a j z => by repeat (first | rfl | rw [up_ne (by omega)] | rw [rem_o hA (by omega)] | rw [rmM_o (by omega)] | rw [fl_o (by omega)] | rw [tks_o (by omega)] | rw [cp_o (by omega)] | rw [rst_o (by omega)] | rw [rnw_o (by omega)] | rw [putl_o (by omega)] | rw [fz_o (by omega)])), hS⟩
          · rw [e233]; exact ⟨PA_cg a21 (PBB hB) (fun a j z => by repeat (first | rfl | rw [up_ne (by omega)] | rw [rem_o hA (by omega)] | rw [rmM_o (by omega)] | rw [fl_o (by omega)] | rw [tks_o (by omega)] | rw [cp_o (by omega)] | rw [rst_o (by omega)] | rw [rnw_o (by omega)] | rw [putl_o (by omega)] | rw [fz_o (by omega)])), a22, a23, a24⟩
          · rw [e233]; exact ⟨WY_cg a31 n0.2 (fun a j z => by repeat (first | rfl | rw [up_ne (by omega)] | rw [rem_o hA (by omega)] | rw [rmM_o (by omega)] | rw [fl_o (by omega)] | rw [tks_o (by omega)] | rw [cp_o (by omega)] | rw [rst_o (by omega)] | rw [rnw_o (by omega)] | rw [putl_o (by omega)] | rw [fz_o (by omega)])) (fun j => by repeat (first | rfl | rw [up_ne (by omega)] | rw [rem_o hA (by omega)] | rw [rmM_o (by omega)] | rw [fl_o (by omega)] | rw [tks_o (by omega)] | rw [cp_o (by omega)] | rw [rst_o (by omega)] | rw [rnw_o (by omega)] | rw [putl_o (by omega)] | rw [fz_o (by omega)])), TRI_cg a32 (fun j => by repeat (first | rfl | rw [up_ne (by omega)] | rw [rem_o hA (by omega)] | rw [rmM_o (by omega)] | rw [fl_o (by omega)] | rw [tks_o (by omega)] | rw [cp_o (by omega)] | rw [rst_o (by omega)] | rw [rnw_o (by omega)] | rw [putl_o (by omega)] | rw [fz_o (by omega)])), WB_cg a33 (fun j => by repeat (first | rfl | rw [up_ne (by omega)] | rw [rem_o hA (by omega)] | rw [rmM_o (by omega)] | rw [fl_o (by omega)] | rw [tks_o (by omega)] | rw [cp_o (by omega)] | rw [rst_o (by omega)] | rw [rnw_o (by omega)] | rw [putl_o (by omega)] | rw [fz_o (by omega)]))⟩
        · rw [if_neg (by omega), if_neg ci]; exact ⟨rfl, h⟩
      · rw [if_neg c, if_neg c]; exact ⟨rfl, h⟩
    · have e : v_X10_laneRefusal A s l = -3 := by rw [lr]; unfold lfM; rw [if_pos hs, if_neg hl]
      rw [if_neg hl, if_neg (by omega), e]; exact ⟨rfl, h⟩
  · have e : v_X10_laneRefusal A s l = -2 := by rw [lr]; unfold lfM; rw [if_neg hs]
    rw [if_neg hs, if_neg (by omega), e]; exact ⟨rfl, h⟩
theorem cp_sh (hA : Bd A) (hB : Bd B) (h : IV A B) {f i t j n i2 j2 : Int} (hf : 0 ≤ f ∧ f < 4) (ht : 0 ≤ t ∧ t < 4) (af : A (224 + 2 * f) 0 ≠ 0) (at' : A (224 + 2 * t) 0 ≠ 0) (hi : 0 ≤ i ∧ i + n ≤ 24) (hj : 0 ≤ j ∧ j + n ≤ 24) (ei : i2 = 24 * f + i) (ej : j2 = 24 * t + j) : IV (mx_cp A (225 + 2 * f) i (225 + 2 * t) j n) (mx_cp B 244 i2 244 j2 n) := by
  have n0 : 0 ≤ B 233 0 ∧ B 233 0 ≤ 7 := hB 233 0
  have sh := h.2.2.2.2.2.2.2
  subst ei; subst ej
  have hS : SHr (mx_cp A (225 + 2 * f) i (225 + 2 * t) j n) (mx_cp B 244 (24 * f + i) 244 (24 * t + j) n) := by
    intro x x0 x1
    by_cases z : x = t
    · rw [z]
      rcases sh t ht.1 ht.2 with ⟨a, b⟩ | ⟨a, b, c, d, e⟩
      · exact absurd a at'
      rcases sh f hf.1 hf.2 with ⟨a2, b2⟩ | ⟨a2, b2, c2, d2, e2⟩
      · exact absurd a2 af
      refine Or.inr ⟨by rw [cp_o (by omega)]; exact a, by rw [cp_o (by omega)]; exact b, by rw [cp_o (by omega), cp_o (by omega)]; exact c, by rw [cp_o (by omega), cp_o (by omega)]; exact d, fun y y0 y1 => ?_⟩
      by_cases w : j ≤ y ∧ y < j + n
      · rw [cp_i w, cp_i (by omega), e2 _ (by omega) (by omega)]; exact congrArg (B 244) (by omega)
      · rw [cp_ox (by omega), cp_ox (by omega)]; exact e y y0 y1
    · exact SH1_cg (sh x x0 x1) (fun j => by rw [cp_o (by omega)]) (fun j => by rw [cp_o (by omega)]) (by rw [cp_o (by omega)]) (by rw [cp_o (by omega)]) (fun j j0 j1 => by rw [cp_ox (by omega)])
  show IV (mx_cp A (225 + 2 * f) i (225 + 2 * t) j n) (mx_cp B 244 (24 * f + i) 244 (24 * t + j) n)
  obtain ⟨a1, ⟨a21, a22, a23, a24⟩, ⟨a31, a32, a33⟩, a4, a5, a6, a7, a8⟩ := h
  have e233 : (mx_cp B 244 (24 * f + i) 244 (24 * t + j) n) 233 = B 233 := funext fun j => by repeat (first | rfl | rw [up_ne (by omega)] | rw [rem_o hA (by omega)] | rw [rmM_o (by omega)] | rw [fl_o (by omega)] | rw [tks_o (by omega)] | rw [cp_o (by omega)] | rw [rst_o (by omega)] | rw [rnw_o (by omega)] | rw [putl_o (by omega)] | rw [fz_o (by omega)])
  refine ⟨TX_cg a1 (fun a j z => by repeat (first | rfl | rw [up_ne (by omega)] | rw [rem_o hA (by omega)] | rw [rmM_o (by omega)] | rw [fl_o (by omega)] | rw [tks_o (by omega)] | rw [cp_o (by omega)] | rw [rst_o (by omega)] | rw [rnw_o (by omega)] | rw [putl_o (by omega)] | rw [fz_o (by omega)])) (fun a j z => by repeat (first | rfl | rw [up_ne (by omega)] | rw [rem_o hA (by omega)] | rw [rmM_o (by omega)] | rw [fl_o (by omega)] | rw [tks_o (by omega)] | rw [cp_o (by omega)] | rw [rst_o (by omega)] | rw [rnw_o (by omega)] | rw [putl_o (by omega)] | rw [fz_o (by omega)])), ?_, ?_, NW_cg a4 n0 (fun a j z => by repeat (first | rfl | rw [up_ne (by omega)] | rw [rem_o hA (by omega)] | rw [rmM_o (by omega)] | rw [fl_o (by omega)] | rw [tks_o (by omega)] | rw [cp_o (by omega)] | rw [rst_o (by omega)] | rw [rnw_o (by omega)] | rw [putl_o (by omega)] | rw [fz_o (by omega)])) (fun a j z => by repeat (first | rfl | rw [up_ne (by omega)] | rw [rem_o hA (by omega)] | rw [rmM_o (by omega)] | rw [fl_o (by omega)] | rw [tks_o (by omega)] | rw [cp_o (by omega)] | rw [rst_o (by omega)] | rw [rnw_o (by omega)] | rw [putl_o (by omega)] | rw [fz_o (by omega)])), PS_cg a5 n0 (fun a j z => by repeat (first | rfl | rw [up_ne (by omega)] | rw [rem_o hA (by omega)] | rw [rmM_o (by omega)] | rw [fl_o (by omega)] | rw [tks_o (by omega)] | rw [cp_o (by omega)] | rw [rst_o (by omega)] | rw [rnw_o (by omega)] | rw [putl_o (by omega)] | rw [fz_o (by omega)])) (fun a j z => by repeat (first | rfl | rw [up_ne (by omega)] | rw [rem_o hA (by omega)] | rw [rmM_o (by omega)] | rw [fl_o (by omega)] | rw [tks_o (by omega)] | rw [cp_o (by omega)] | rw [rst_o (by omega)] | rw [rnw_o (by omega)] | rw [putl_o (by omega)] | rw [fz_o (by omega)])), KP_cg a6 n0 (fun a j z => by repeat (first | rfl | rw [up_ne (by omega)] | rw [rem_o hA (by omega)] | rw [rmM_o (by omega)] | rw [fl_o (by omega)] | rw [tks_o (by omega)] | rw [cp_o (by omega)] | rw [rst_o (by omega)] | rw [rnw_o (by omega)] | rw [putl_o (by omega)] | rw [fz_o (by omega)])) (fun a j z => by repeat (first | rfl | rw [up_ne (by omega)] | rw [rem_o hA (by omega)] | rw [rmM_o (by omega)] | rw [fl_o (by omega)] | rw [tks_o (by omega)] | rw [cp_o (by omega)] | rw [rst_o (by omega)] | rw [rnw_o (by omega)] | rw [putl_o (by omega)] | rw [fz_o (by omega)])), SG_cg a7 (fun a j z => by repeat (first | rfl | rw [up_ne (by omega)] | rw [rem_o hA (by omega)] | rw [rmM_o (by omega)] | rw [fl_o (by omega)] | rw [tks_o (by omega)] | rw [cp_o (by omega)] | rw [rst_o (by omega)] | rw [rnw_o (by omega)] | rw [putl_o (by omega)] | rw [fz_o (by omega)])) (fun a j z => by repeat (first | rfl | rw [up_ne (by omega)] | rw [rem_o hA (by omega)] | rw [rmM_o (by omega)] | rw [fl_o (by omega)] | rw [tks_o (by omega)] | rw [cp_o (by omega)] | rw [rst_o (by omega)] | rw [rnw_o (by omega)] | rw [putl_o (by omega)] | rw [fz_o (by omega)])), hS⟩
  · rw [e233]; exact ⟨PA_cg a21 (PBB hB) (fun a j z => by repeat (first | rfl | rw [up_ne (by omega)] | rw [rem_o hA (by omega)] | rw [rmM_o (by omega)] | rw [fl_o (by omega)] | rw [tks_o (by omega)] | rw [cp_o (by omega)] | rw [rst_o (by omega)] | rw [rnw_o (by omega)] | rw [putl_o (by omega)] | rw [fz_o (by omega)])), a22, a23, a24⟩
  · rw [e233]; exact ⟨WY_cg a31 n0.2 (fun a j z => by repeat (first | rfl | rw [up_ne (by omega)] | rw [rem_o hA (by omega)] | rw [rmM_o (by omega)] | rw [fl_o (by omega)] | rw [tks_o (by omega)] | rw [cp_o (by omega)] | rw [rst_o (by omega)] | rw [rnw_o (by omega)] | rw [putl_o (by omega)] | rw [fz_o (by omega)])) (fun j => by repeat (first | rfl | rw [up_ne (by omega)] | rw [rem_o hA (by omega)] | rw [rmM_o (by omega)] | rw [fl_o (by omega)] | rw [tks_o (by omega)] | rw [cp_o (by omega)] | rw [rst_o (by omega)] | rw [rnw_o (by omega)] | rw [putl_o (by omega)] | rw [fz_o (by omega)])), TRI_cg a32 (fun j => by repeat (first | rfl | rw [up_ne (by omega)] | rw [rem_o hA (by omega)] | rw [rmM_o (by omega)] | rw [fl_o (by omega)] | rw [tks_o (by omega)] | rw [cp_o (by omega)] | rw [rst_o (by omega)] | rw [rnw_o (by omega)] | rw [putl_o (by omega)] | rw [fz_o (by omega)])), WB_cg a33 (fun j => by repeat (first | rfl | rw [up_ne (by omega)] | rw [rem_o hA (by omega)] | rw [rmM_o (by omega)] | rw [fl_o (by omega)] | rw [tks_o (by omega)] | rw [cp_o (by omega)] | rw [rst_o (by omega)] | rw [rnw_o (by omega)] | rw [putl_o (by omega)] | rw [fz_o (by omega)]))⟩
theorem s_copy (hA : Bd A) (hB : Bd B) (h : IV A B) {f i t j n : Int} : (w_X10_copy A f i t j n).1 = (w_X11_copy B f i t j n).1 ∧ IV (w_X10_copy A f i t j n).2 (w_X11_copy B f i t j n).2 := by
  have n0 : 0 ≤ B 233 0 ∧ B 233 0 ≤ 7 := hB 233 0
  have nn := iv_n h
  have st := iv_s h
  have t1 := h.1.1
  have sh := h.2.2.2.2.2.2.2
  unfold w_X10_copy w_X11_copy
  by_cases hf : 0 ≤ f ∧ f < 4
  · rw [if_pos hf, if_pos (show 0 ≤ f ∧ f ≤ 3 by omega)]
    by_cases ht : 0 ≤ t ∧ t < 4
    · rw [if_pos ht, if_pos (show 0 ≤ t ∧ t ≤ 3 by omega)]
      rcases sh f hf.1 hf.2 with ⟨a, b⟩ | ⟨a, b, c, d, e⟩
      · rw [if_pos a, if_pos (show B 243 f < 0 by omega)]; exact ⟨rfl, h⟩
      rw [if_neg (show ¬ A (224 + 2 * f) 0 = 0 by omega), if_neg (show ¬ B 243 f < 0 by omega)]
      rcases sh t ht.1 ht.2 with ⟨a2, b2⟩ | ⟨a2, b2, c2, d2, e2⟩
      · rw [if_pos a2, if_pos (show B 243 t < 0 by omega)]; exact ⟨rfl, h⟩
      rw [if_neg (show ¬ A (224 + 2 * t) 0 = 0 by omega), if_neg (show ¬ B 243 t < 0 by omega), d, d2]
      by_cases hl : B 242 f = B 242 t
      · rw [if_pos hl, if_pos hl]
        have b24 : -1 ≤ B 243 f ∧ B 243 f ≤ 24 := hB 243 f
        have b25 : -1 ≤ B 243 t ∧ B 243 t ≤ 24 := hB 243 t
        by_cases ok : (0 ≤ i ∧ i ≤ B 243 f) ∧ (0 ≤ n ∧ n ≤ B 243 f - i) ∧ 0 ≤ j ∧ j ≤ B 243 t ∧ n ≤ B 243 t - j
        · rw [if_pos (show (0 ≤ i ∧ i ≤ A (224 + 2 * f) 2) ∧ 0 ≤ n ∧ n ≤ A (224 + 2 * f) 2 - i by omega), if_pos (show (0 ≤ j ∧ j ≤ A (224 + 2 * t) 2) ∧ 0 ≤ n ∧ n ≤ A (224 + 2 * t) 2 - j by omega), if_neg (show ¬ i < 0 by omega), if_neg (show ¬ j < 0 by omega), if_neg (show ¬ n < 0 by omega), if_neg (show ¬ B 243 f < i + n by omega), if_neg (show ¬ B 243 t < j + n by omega)]
          by_cases up : i < j
          · rw [if_pos up]; exact ⟨rfl, cp_sh hA hB h hf ht (by omega) (by omega) (by omega) (by omega) (by omega) (by omega)⟩
          · rw [if_neg up]; exact ⟨rfl, cp_sh hA hB h hf ht (by omega) (by omega) (by omega) (by omega) (by omega) (by omega)⟩
        · have eL : (if (0 ≤ i ∧ i ≤ A (224 + 2 * f) 2) ∧ 0 ≤ n ∧ n ≤ A (224 + 2 * f) 2 - i then if (0 ≤ j ∧ j ≤ A (224 + 2 * t) 2) ∧ 0 ≤ n ∧ n ≤ A (224 + 2 * t) 2 - j then (n, (mx_cp A (225 + 2 * f) i (225 + 2 * t) j n)) else ((-13 : Int), A) else ((-13 : Int), A)) = (-13, A) := by
            by_cases q : (0 ≤ i ∧ i ≤ A (224 + 2 * f) 2) ∧ 0 ≤ n ∧ n ≤ A (224 + 2 * f) 2 - i
            · rw [if_pos q, if_neg (by omega)]
            · rw [if_neg q]
          rw [eL]
          by_cases q1 : i < 0
          · rw [if_pos q1]; exact ⟨rfl, h⟩
          rw [if_neg q1]
          by_cases q2 : j < 0
          · rw [if_pos q2]; exact ⟨rfl, h⟩
          rw [if_neg q2]
          by_cases q3 : n < 0
          · rw [if_pos q3]; exact ⟨rfl, h⟩
          rw [if_neg q3]
          by_cases q4 : B 243 f < i + n
          · rw [if_pos q4]; exact ⟨rfl, h⟩
          rw [if_neg q4, if_pos (by omega)]; exact ⟨rfl, h⟩
      · rw [if_neg hl, if_neg hl]; exact ⟨rfl, h⟩
    · rw [if_neg ht, if_neg (by omega)]; exact ⟨rfl, h⟩
  · rw [if_neg hf, if_neg (by omega)]; exact ⟨rfl, h⟩
end
