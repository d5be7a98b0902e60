/-! THE CLASS's READER, clause by clause -/
noncomputable def FM (S : rS) (e n : Int) (RR : Int → Int → Int) (f g w : Int) : rS := fun a j => if a = 1 ∧ j = 2 then tkB (S 2) (S 1 1) e else if a = 1 ∧ j = 4 then tkK (S 2) (S 1 1) e else if a = 1 ∧ j = 3 then tkQ (S 2) (S 1 1) e else if a = 3 ∧ j = 1 then n else if a = 3 ∧ j = 3 then f else if a = 3 ∧ j = 4 then g else if a = 3 ∧ j = 5 then w else if 5 ≤ a ∧ a < 25 then RR (a - 5) j else S a j
theorem FM_ap {S : rS} {e n f g w a j : Int} {RR : Int → Int → Int} : FM S e n RR f g w a j = if a = 1 ∧ j = 2 then tkB (S 2) (S 1 1) e else if a = 1 ∧ j = 4 then tkK (S 2) (S 1 1) e else if a = 1 ∧ j = 3 then tkQ (S 2) (S 1 1) e else if a = 3 ∧ j = 1 then n else if a = 3 ∧ j = 3 then f else if a = 3 ∧ j = 4 then g else if a = 3 ∧ j = 5 then w else if 5 ≤ a ∧ a < 25 then RR (a - 5) j else S a j := rfl
def ur2 (RR : Int → Int → Int) (c : Int) (R : Int → Int) : Int → Int → Int := fun x => if x = c then R else RR x
theorem ur2_i {RR : Int → Int → Int} {c : Int} {R : Int → Int} : ur2 RR c R c = R := if_pos rfl
theorem ur2_o {RR : Int → Int → Int} {c x : Int} {R : Int → Int} (h : ¬ x = c) : ur2 RR c R x = RR x := if_neg h
section
variable {S : rS} {e n f g w : Int} {RR : Int → Int → Int}
theorem FM_o {a j : Int} (h1 : ¬ (a = 1 ∧ (j = 2 ∨ j = 3 ∨ j = 4))) (h2 : ¬ a = 3) (h3 : ¬ (5 ≤ a ∧ a < 25)) : FM S e n RR f g w a j = S a j := by
  unfold FM
  rw [if_neg (by omega), if_neg (by omega), if_neg (by omega), if_neg (by omega), if_neg (by omega), if_neg (by omega), if_neg (by omega), if_neg h3]
theorem FM_2 : FM S e n RR f g w 2 = S 2 := funext fun j => FM_o (by omega) (by omega) (by omega)
theorem FM_11 : FM S e n RR f g w 1 1 = S 1 1 := FM_o (by omega) (by omega) (by omega)
theorem FM_row {c : Int} (hc : 0 ≤ c ∧ c < 20) : FM S e n RR f g w (5 + c) = RR c := by
  funext j
  unfold FM
  rw [if_neg (by omega), if_neg (by omega), if_neg (by omega), if_neg (by omega), if_neg (by omega), if_neg (by omega), if_neg (by omega), if_pos (by omega), show 5 + c - 5 = c by omega]
theorem CM_FM {e' f' g' w' : Int} {R' : Int → Int} (hn : 0 ≤ n ∧ n < 20) : CM (FM S e n RR f g w) n e' R' f' g' w' = FM S e' n (ur2 RR n R') f' g' w' := by
  have e2 : FM S e n RR f g w 2 = S 2 := FM_2
  have e1 : FM S e n RR f g w 1 1 = S 1 1 := FM_11
  funext a j
  rw [CM_ap, FM_ap (e := e'), e2, e1]
  by_cases h0 : a = 1 ∧ j = 2
  · rw [if_pos h0, if_pos h0]
  rw [if_neg h0, if_neg h0]
  by_cases h1 : a = 1 ∧ j = 4
  · rw [if_pos h1, if_pos h1]
  rw [if_neg h1, if_neg h1]
  by_cases h2 : a = 1 ∧ j = 3
  · rw [if_pos h2, if_pos h2]
  rw [if_neg h2, if_neg h2]
  by_cases h3 : a = 3 ∧ j = 1
  · rw [if_neg (by omega), if_neg (by omega), if_neg (by omega), if_neg (by omega), if_pos h3]
    show FM S e n RR f g w a j = n
    rw [FM_ap, if_neg h0, if_neg h1, if_neg h2, if_pos h3]
  rw [if_neg h3]
  by_cases h4 : a = 3 ∧ j = 3
  · rw [if_pos h4, if_pos h4]
  rw [if_neg h4, if_neg h4]
  by_cases h5 : a = 3 ∧ j = 4
  · rw [if_pos h5, if_pos h5]
  rw [if_neg h5, if_neg h5]
  by_cases h6 : a = 3 ∧ j = 5
  · rw [if_pos h6, if_pos h6]
  rw [if_neg h6, if_neg h6]
  by_cases h7 : a = 5 + n
  · rw [if_pos h7, if_pos (by omega), show a - 5 = n by omega, ur2_i]
  · rw [if_neg h7, FM_ap, if_neg h0, if_neg h1, if_neg h2, if_neg h3, if_neg h4, if_neg h5, if_neg h6]
    by_cases h8 : 5 ≤ a ∧ a < 25
    · rw [if_pos h8, if_pos h8, ur2_o (by omega)]
    · rw [if_neg h8, if_neg h8]
theorem ur2_id : ur2 RR n (RR n) = RR := by
  funext x; unfold ur2
  by_cases h : x = n
  · rw [if_pos h, h]
  · rw [if_neg h]
theorem FM_cl (hn : 0 ≤ n ∧ n < 20) : w_X0_readClause (FM S e n RR f g w) n = ((pcl (S 2) (S 1 1) e (RR n) f g w).1, FM S (pcl (S 2) (S 1 1) e (RR n) f g w).2.1 n (ur2 RR n (pcl (S 2) (S 1 1) e (RR n) f g w).2.2.1) (pcl (S 2) (S 1 1) e (RR n) f g w).2.2.2.1 (pcl (S 2) (S 1 1) e (RR n) f g w).2.2.2.2.1 (pcl (S 2) (S 1 1) e (RR n) f g w).2.2.2.2.2) := by
  have h : CM (FM S e n RR f g w) n e (RR n) f g w = FM S e n RR f g w := by rw [CM_FM hn, ur2_id]
  have q := cl_c (S := FM S e n RR f g w) (c := n) (e := e) (R := RR n) (f := f) (g := g) (w := w) hn.1
  rw [h, FM_2, FM_11] at q
  rw [q]
  unfold CMr
  rw [CM_FM hn]
theorem FM_stp : stp (FM S e n RR f g w) = FM S (tkQ (S 2) (S 1 1) e) n RR f g w := by
  unfold stp tkS
  rw [FM_2, FM_11, show FM S e n RR f g w 1 3 = tkQ (S 2) (S 1 1) e from rfl]
  funext a j
  rw [up_ap, up_ap, up_ap, FM_ap, FM_ap]
  by_cases h0 : a = 1 ∧ j = 2
  · repeat (first | rw [if_neg (by omega)] | rw [if_pos (by omega)])
  by_cases h1 : a = 1 ∧ j = 4
  · repeat (first | rw [if_neg (by omega)] | rw [if_pos (by omega)])
  by_cases h2 : a = 1 ∧ j = 3
  · repeat (first | rw [if_neg (by omega)] | rw [if_pos (by omega)])
  by_cases h3 : a = 3 ∧ j = 1
  · repeat (first | rw [if_neg (by omega)] | rw [if_pos (by omega)])
  by_cases h4 : a = 3 ∧ j = 3
  · repeat (first | rw [if_neg (by omega)] | rw [if_pos (by omega)])
  by_cases h5 : a = 3 ∧ j = 4
  · repeat (first | rw [if_neg (by omega)] | rw [if_pos (by omega)])
  by_cases h6 : a = 3 ∧ j = 5
  · repeat (first | rw [if_neg (by omega)] | rw [if_pos (by omega)])
  by_cases h7 : 5 ≤ a ∧ a < 25
  · repeat (first | rw [if_neg (by omega)] | rw [if_pos (by omega)])
  repeat (first | rw [if_neg (by omega)] | rw [if_pos (by omega)])
theorem FM_u31 {v : Int} : mx_up (FM S e n RR f g w) 3 1 v = FM S e v RR f g w := by
  funext a j
  rw [up_ap, FM_ap, FM_ap]
  by_cases h0 : a = 1 ∧ j = 2
  · repeat (first | rw [if_neg (by omega)] | rw [if_pos (by omega)])
  by_cases h1 : a = 1 ∧ j = 4
  · repeat (first | rw [if_neg (by omega)] | rw [if_pos (by omega)])
  by_cases h2 : a = 1 ∧ j = 3
  · repeat (first | rw [if_neg (by omega)] | rw [if_pos (by omega)])
  by_cases h3 : a = 3 ∧ j = 1
  · repeat (first | rw [if_neg (by omega)] | rw [if_pos (by omega)])
  by_cases h4 : a = 3 ∧ j = 3
  · repeat (first | rw [if_neg (by omega)] | rw [if_pos (by omega)])
  by_cases h5 : a = 3 ∧ j = 4
  · repeat (first | rw [if_neg (by omega)] | rw [if_pos (by omega)])
  by_cases h6 : a = 3 ∧ j = 5
  · repeat (first | rw [if_neg (by omega)] | rw [if_pos (by omega)])
  by_cases h7 : 5 ≤ a ∧ a < 25
  · repeat (first | rw [if_neg (by omega)] | rw [if_pos (by omega)])
  repeat (first | rw [if_neg (by omega)] | rw [if_pos (by omega)])
theorem FM_0 : stp (mx_up (mx_up (mx_up (mx_up (mx_up S 3 3 f) 3 4 g) 3 5 w) 3 1 n) 1 3 0) = FM S 0 n (fun x j => S (5 + x) j) f g w := by
  unfold stp tkS
  rw [show mx_up (mx_up (mx_up (mx_up (mx_up S 3 3 f) 3 4 g) 3 5 w) 3 1 n) 1 3 0 2 = S 2 from rfl, show mx_up (mx_up (mx_up (mx_up (mx_up S 3 3 f) 3 4 g) 3 5 w) 3 1 n) 1 3 0 1 1 = S 1 1 from rfl, show mx_up (mx_up (mx_up (mx_up (mx_up S 3 3 f) 3 4 g) 3 5 w) 3 1 n) 1 3 0 1 3 = 0 from rfl]
  funext a j
  rw [up_ap, up_ap, up_ap, up_ap, up_ap, up_ap, up_ap, up_ap, FM_ap]
  by_cases h0 : a = 1 ∧ j = 2
  · repeat (first | rw [if_neg (by omega)] | rw [if_pos (by omega)])
  by_cases h1 : a = 1 ∧ j = 4
  · repeat (first | rw [if_neg (by omega)] | rw [if_pos (by omega)])
  by_cases h2 : a = 1 ∧ j = 3
  · repeat (first | rw [if_neg (by omega)] | rw [if_pos (by omega)])
  by_cases h3 : a = 3 ∧ j = 1
  · repeat (first | rw [if_neg (by omega)] | rw [if_pos (by omega)])
  by_cases h4 : a = 3 ∧ j = 3
  · repeat (first | rw [if_neg (by omega)] | rw [if_pos (by omega)])
  by_cases h5 : a = 3 ∧ j = 4
  · repeat (first | rw [if_neg (by omega)] | rw [if_pos (by omega)])
  by_cases h6 : a = 3 ∧ j = 5
  · repeat (first | rw [if_neg (by omega)] | rw [if_pos (by omega)])
  by_cases h7 : 5 ≤ a ∧ a < 25
  · repeat (first | rw [if_neg (by omega)] | rw [if_pos (by omega)]); try rw [show 5 + (a - 5) = a by omega]
  repeat (first | rw [if_neg (by omega)] | rw [if_pos (by omega)])
theorem tord_FM (hB : Bd S) (he : 0 ≤ e ∧ e ≤ 200) : tord (FM S e n RR f g w) := by
  have b1 : 0 ≤ S 1 1 ∧ S 1 1 ≤ 200 := hB 1 1
  have q1 := tkB_b (S 2) (S 1 1) e
  have q3 := tkQ_b (S 2) (S 1 1) e
  have e2 : FM S e n RR f g w 1 2 = tkB (S 2) (S 1 1) e := rfl
  have e3 : FM S e n RR f g w 1 3 = tkQ (S 2) (S 1 1) e := rfl
  unfold tord
  rw [e2, e3]
  omega
end
/-- a text read: answer, clauses, rows -/
noncomputable def pfl (T : Int → Int) (m : Int) : Nat → Int → Int → (Int → Int → Int) → Int → Int → Int → Int × Int × (Int → Int → Int)
  | 0, _, n, RR, _, _, _ => (0, n, RR)
  | k + 1, e, n, RR, f, g, w => if (pcl T m e (RR n) f g w).1 = 0 then (tkB T m (pcl T m e (RR n) f g w).2.1, n, ur2 RR n (pcl T m e (RR n) f g w).2.2.1) else
    if tkK T m (pcl T m e (RR n) f g w).2.1 = 0 then (-1, n + 1, ur2 RR n (pcl T m e (RR n) f g w).2.2.1) else
    if (tkK T m (pcl T m e (RR n) f g w).2.1 = 3 ∧ T (tkB T m (pcl T m e (RR n) f g w).2.1) = 59) ∧ n + 1 ≠ 20 then pfl T m k (tkQ T m (pcl T m e (RR n) f g w).2.1) (n + 1) (ur2 RR n (pcl T m e (RR n) f g w).2.2.1) (pcl T m e (RR n) f g w).2.2.2.1 (pcl T m e (RR n) f g w).2.2.2.2.1 (pcl T m e (RR n) f g w).2.2.2.2.2 else
    (tkB T m (pcl T m e (RR n) f g w).2.1, n + 1, ur2 RR n (pcl T m e (RR n) f g w).2.2.1)
theorem pfl_s {T : Int → Int} {m e n f g w ok e1 f1 g1 w1 : Int} {RR : Int → Int → Int} {R1 : Int → Int} {z : Int × Int × (Int → Int → Int)} (hn : n < 20) (hp : pcl T m e (RR n) f g w = (ok, e1, R1, f1, g1, w1)) (h : pfl T m (20 - n).toNat e n RR f g w = z) : (if ok = 0 then (tkB T m e1, n, ur2 RR n R1) else if tkK T m e1 = 0 then (-1, n + 1, ur2 RR n R1) else if (tkK T m e1 = 3 ∧ T (tkB T m e1) = 59) ∧ n + 1 ≠ 20 then pfl T m (20 - (n + 1)).toNat (tkQ T m e1) (n + 1) (ur2 RR n R1) f1 g1 w1 else (tkB T m e1, n + 1, ur2 RR n R1)) = z := by
  rw [show (20 - n).toNat = (20 - (n + 1)).toNat + 1 by omega] at h
  unfold pfl at h
  rw [hp] at h
  exact h
theorem tkK_n {T : Int → Int} {n e : Int} (h : tkK T n e ≠ 0) : tkB T n e < n := by
  unfold tkK at h
  by_cases q : tkB T n e < n
  · exact q
  · rw [if_neg q] at h; exact absurd rfl h
/-- positions stay in the text -/
theorem pnm_e {T : Int → Int} {n k e lo hi f g w : Int} {R : Int → Int} (h : 0 ≤ e ∧ e ≤ 200) (hn : n ≤ 200) : 0 ≤ (pnm T n k e R lo hi f g w).2.1 ∧ (pnm T n k e R lo hi f g w).2.1 ≤ 200 := by
  have q1 := tkB_b T n e
  have q3 := tkQ_b T n e
  by_cases z : (pnm T n k e R lo hi f g w).1 = 0
  · rw [(pnm_0 z).1]; exact h
  · rw [(pnm_1 z).1]; show 0 ≤ tkQ T n e ∧ tkQ T n e ≤ 200; omega
theorem pln_e {T : Int → Int} {n e f g w : Int} {R : Int → Int} (h : 0 ≤ e ∧ e ≤ 200) (hn : n ≤ 200) : 0 ≤ (pln T n e R f g w).2.1 ∧ (pln T n e R f g w).2.1 ≤ 200 := by
  have q1 := tkB_b T n e
  have q3 := tkQ_b T n e
  unfold pln
  split
  · split
    · exact h
    · show 0 ≤ tkQ T n e ∧ tkQ T n e ≤ 200; omega
  · exact h
theorem tkQ_e {T : Int → Int} {n e : Int} (h : 0 ≤ e ∧ e ≤ 200) (hn : n ≤ 200) : 0 ≤ tkQ T n e ∧ tkQ T n e ≤ 200 := by
  have q1 := tkB_b T n e
  have q3 := tkQ_b T n e
  omega
theorem pgt_e {T : Int → Int} {n e f g w : Int} {R : Int → Int} (h : 0 ≤ e ∧ e ≤ 200) (hn : n ≤ 200) : 0 ≤ (pgt T n e R f g w).2.1 ∧ (pgt T n e R f g w).2.1 ≤ 200 := by
  unfold pgt
  split
  · exact pnm_e h hn
  · split
    · exact pnm_e h hn
    · split
      · exact pnm_e (tkQ_e h hn) hn
      · split
        · exact pnm_e (tkQ_e (tkQ_e h hn) hn) hn
        · exact pnm_e (tkQ_e (tkQ_e h hn) hn) hn
theorem pcl_e {T : Int → Int} {n e f g w : Int} {R : Int → Int} (h : 0 ≤ e ∧ e ≤ 200) (hn : n ≤ 200) : 0 ≤ (pcl T n e R f g w).2.1 ∧ (pcl T n e R f g w).2.1 ≤ 200 := by
  have h1 := tkQ_e (T := T) h hn
  have h2 := tkQ_e (T := T) h1 hn
  have h3 := tkQ_e (T := T) h2 hn
  unfold pcl
  split
  · exact h
  · split
    · exact h
    · split
      · exact h1
      · split
        · exact pgt_e h1 hn
        · split
          · exact pln_e h1 hn
          · split
            · exact pnm_e h1 hn
            · split
              · exact pnm_e h1 hn
              · split
                · exact pnm_e h2 hn
                · split
                  · exact pln_e h3 hn
                  · exact pln_e h3 hn
theorem c_X0_findFault {S : rS} (hB : Bd S) : CS 9 3 [.inr (.inr 3), .inr (.inr 25)] S (fun r' S' => ∃ (ans e n : Int) (RR : Int → Int → Int) (f g w : Int), Bd S' ∧ S' = FM S e n RR f g w ∧ r' = some (.inl ans) ∧ (-1 ≤ ans ∧ ans ≤ 200) ∧ pfl (S 2) (S 1 1) 20 0 0 (fun x j => S (5 + x) j) (S 25 0) (S 25 6) (S 25 10) = (ans, n, RR)) := by
  refine RS.beg (ls := [some (.inr (.inr 3)), some (.inr (.inr 25))]) rfl rfl rfl rfl rfl ?_
  have b11 : 0 ≤ S 1 1 ∧ S 1 1 ≤ 200 := hB 1 1
  refine r_aload (pc' := 1) rfl rfl rfl ?_
  refine r_aload (pc' := 2) rfl rfl rfl ?_
  refine r_getv (pc' := 5) (v := (S 25 0)) rfl rfl (Or.inl rfl) rfl rfl ?_
  have b1 : 0 ≤ S 25 0 ∧ S 25 0 ≤ 7 := hB 25 0
  refine r_put (pc' := 8) rfl rfl rfl rfl ?_
  refine r_aload (pc' := 9) rfl rfl rfl ?_
  refine r_aload (pc' := 10) rfl rfl rfl ?_
  refine r_getv (pc' := 13) (v := (S 25 6)) rfl rfl (Or.inl rfl) rfl rfl ?_
  have b2 : 0 ≤ S 25 6 ∧ S 25 6 ≤ 9 := hB 25 6
  refine r_put (pc' := 16) rfl rfl rfl rfl ?_
  refine r_aload (pc' := 17) rfl rfl rfl ?_
  refine r_aload (pc' := 18) rfl rfl rfl ?_
  refine r_getv (pc' := 21) (v := (S 25 10)) rfl rfl (Or.inl rfl) rfl rfl ?_
  have b3 : 0 ≤ S 25 10 ∧ S 25 10 ≤ 8 := hB 25 10
  refine r_put (pc' := 24) rfl rfl rfl rfl ?_
  refine r_aload (pc' := 25) rfl rfl rfl ?_
  refine r_const (pc' := 26) rfl rfl ?_
  refine r_put (pc' := 29) rfl rfl rfl rfl ?_
  refine r_aload (pc' := 30) rfl rfl rfl ?_
  refine r_getr (pc' := 33) (v := 1) rfl rfl rfl rfl rfl ?_
  refine q_callE (pc' := 36) (w := none) (S2 := stp (mx_up (mx_up (mx_up (mx_up (mx_up S 3 3 (S 25 0)) 3 4 (S 25 6)) 3 5 (S 25 10)) 3 1 0) 1 3 0)) (st' := []) rfl rfl rfl (c_X8_begin  (S := mx_up (mx_up (mx_up (mx_up S 3 3 (S 25 0)) 3 4 (S 25 6)) 3 5 (S 25 10)) 3 1 0) (Bd_up (Bd_up (Bd_up (Bd_up hB (show (0 : Int) ≤ (S 25 0) from by omega) (show (S 25 0) ≤ (7 : Int) from by omega)) (show (0 : Int) ≤ (S 25 6) from by omega) (show (S 25 6) ≤ (9 : Int) from by omega)) (show (0 : Int) ≤ (S 25 10) from by omega) (show (S 25 10) ≤ (8 : Int) from by omega)) (show (0 : Int) ≤ 0 from by omega) (show 0 ≤ (20 : Int) from by omega)) ) (by decide) rfl rfl (Nat.le_of_ble_eq_true rfl) (fun _ _ => ⟨_, _, rfl, rfl⟩) rfl rfl ?_
  have hB4 : Bd (stp (mx_up (mx_up (mx_up (mx_up (mx_up S 3 3 (S 25 0)) 3 4 (S 25 6)) 3 5 (S 25 10)) 3 1 0) 1 3 0)) := Bd_stp (Bd_up (Bd_up (Bd_up (Bd_up (Bd_up hB (show (0 : Int) ≤ (S 25 0) from by omega) (show (S 25 0) ≤ (7 : Int) from by omega)) (show (0 : Int) ≤ (S 25 6) from by omega) (show (S 25 6) ≤ (9 : Int) from by omega)) (show (0 : Int) ≤ (S 25 10) from by omega) (show (S 25 10) ≤ (8 : Int) from by omega)) (show (0 : Int) ≤ 0 from by omega) (show 0 ≤ (20 : Int) from by omega)) (show (0 : Int) ≤ 0 by omega) (show (0 : Int) ≤ 200 by omega))
  refine r_mem (show (stp (mx_up (mx_up (mx_up (mx_up (mx_up S 3 3 (S 25 0)) 3 4 (S 25 6)) 3 5 (S 25 10)) 3 1 0) 1 3 0)) = FM S (0 : Int) (0 : Int) (fun x j => S (5 + x) j) (S 25 0) (S 25 6) (S 25 10) from by exact FM_0) ?_
  refine r_while (α := Int × Int × (Int → Int → Int) × Int × Int × Int) (fun z' => [some (.inr (.inr 3)), some (.inr (.inr 25))]) (fun z' => FM S z'.1 z'.2.1 z'.2.2.1 z'.2.2.2.1 z'.2.2.2.2.1 z'.2.2.2.2.2) (fun z' => (0 ≤ z'.2.1 ∧ z'.2.1 < 20) ∧ (0 ≤ z'.1 ∧ z'.1 ≤ 200) ∧ (pfl (S 2) (S 1 1) (20 - z'.2.1).toNat z'.1 z'.2.1 z'.2.2.1 z'.2.2.2.1 z'.2.2.2.2.1 z'.2.2.2.2.2 = pfl (S 2) (S 1 1) 20 0 0 (fun x j => S (5 + x) j) (S 25 0) (S 25 6) (S 25 10)) ∧ (Bd (FM S z'.1 z'.2.1 z'.2.2.1 z'.2.2.2.1 z'.2.2.2.2.1 z'.2.2.2.2.2))) (fun z' => (20 - z'.2.1).toNat) ?_ ((0 : Int), (0 : Int), (fun x j => S (5 + x) j), (S 25 0), (S 25 6), (S 25 10)) (show (0 ≤ (0 : Int) ∧ (0 : Int) < 20) ∧ (0 ≤ (0 : Int) ∧ (0 : Int) ≤ 200) ∧ (pfl (S 2) (S 1 1) (20 - (0 : Int)).toNat (0 : Int) (0 : Int) (fun x j => S (5 + x) j) (S 25 0) (S 25 6) (S 25 10) = pfl (S 2) (S 1 1) 20 0 0 (fun x j => S (5 + x) j) (S 25 0) (S 25 6) (S 25 10)) ∧ (Bd (FM S (0 : Int) (0 : Int) (fun x j => S (5 + x) j) (S 25 0) (S 25 6) (S 25 10))) from by exact ⟨by omega, by omega, rfl, by have q := hB4; rw [FM_0] at q; exact q⟩)
  rintro ⟨e, n, RR, f, g, w⟩ hI' ih36
  have hI' : (0 ≤ n ∧ n < 20) ∧ (0 ≤ e ∧ e ≤ 200) ∧ (pfl (S 2) (S 1 1) (20 - n).toNat e n RR f g w = pfl (S 2) (S 1 1) 20 0 0 (fun x j => S (5 + x) j) (S 25 0) (S 25 6) (S 25 10)) ∧ (Bd (FM S e n RR f g w)) := hI'
  obtain ⟨hn1, he1, hpf, hBF⟩ := hI'
  show RS _ _ _ _ [some (.inr (.inr 3)), some (.inr (.inr 25))] [] (FM S e n RR f g w)
  have b5 : 0 ≤ S 1 1 ∧ S 1 1 ≤ 200 := hB 1 1
  have hB6 : Bd (FM S e n RR f g w) := by exact hBF
  refine r_aload (pc' := 37) rfl rfl rfl ?_
  refine r_getv (pc' := 40) (v := n) rfl rfl (Or.inl rfl) rfl rfl ?_
  refine r_const (pc' := 42) rfl rfl ?_
  refine r_icmp_ge0 (pc' := 45) rfl rfl (by omega) (by omega) ?_
  refine r_aload (pc' := 46) rfl rfl rfl ?_
  refine r_aload (pc' := 47) rfl rfl rfl ?_
  refine r_getr (pc' := 50) (v := 4) rfl rfl rfl rfl rfl ?_
  refine r_aload (pc' := 51) rfl rfl rfl ?_
  refine r_getv (pc' := 54) (v := n) rfl rfl (Or.inl rfl) rfl rfl ?_
  refine r_aald (pc' := 55) (v := (5 + n)) 102020 rfl rfl rfl rfl (by omega) rfl ?_
  refine q_call (pc' := 58) (P := fun r' S' => r' = some (.inl ((w_X0_readClause (FM S e n RR f g w) n).1)) ∧ S' = (w_X0_readClause (FM S e n RR f g w) n).2 ∧ Bd S' ∧ ((w_X0_readClause (FM S e n RR f g w) n).1 = 0 ∨ (w_X0_readClause (FM S e n RR f g w) n).1 = 1) ∧ tord S') rfl rfl rfl (c_X0_readClause (c := n) (S := (FM S e n RR f g w)) hB6 (show tord (FM S e n RR f g w) from by exact tord_FM hB he1) (show 0 ≤ n ∧ n < 20 from by omega)) (by decide) rfl rfl (Nat.le_of_ble_eq_true rfl) (fun _ _ => ⟨_, _, rfl, rfl⟩) rfl ?_
  rintro _ _ ⟨rfl, rfl, hB7, hr7, he7⟩ hz7
  show RS _ _ _ _ _ [.inl ((w_X0_readClause (FM S e n RR f g w) n).1)] (w_X0_readClause (FM S e n RR f g w) n).2
  have ep := pcl_e (T := S 2) (n := S 1 1) (e := e) (f := f) (g := g) (w := w) (R := RR n) he1 b11.2
  obtain ⟨ok, e1, R1, f1, g1, w1, hp⟩ : ∃ (ok e1 : Int) (R1 : Int → Int) (f1 g1 w1 : Int), pcl (S 2) (S 1 1) e (RR n) f g w = (ok, e1, R1, f1, g1, w1) := ⟨_, _, _, _, _, _, rfl⟩
  have hcl : w_X0_readClause (FM S e n RR f g w) n = (ok, FM S e1 n (ur2 RR n R1) f1 g1 w1) := by rw [FM_cl hn1, hp]
  rw [hp] at ep
  have ep : 0 ≤ e1 ∧ e1 ≤ 200 := ep
  have hP := pfl_s hn1.2 hp hpf
  have hB1 : Bd (FM S e1 n (ur2 RR n R1) f1 g1 w1) := by have q := hB7; rw [hcl] at q; exact q
  have hok : ok = 0 ∨ ok = 1 := by have q := hr7; rw [hcl] at q; exact q
  have kb := tkK_r (S 2) (S 1 1) e1
  have bb := tkB_b (S 2) (S 1 1) e1
  rw [hcl]
  show RS _ _ _ _ [some (.inr (.inr 3)), some (.inr (.inr 25))] [.inl ok] (FM S e1 n (ur2 RR n R1) f1 g1 w1)
  by_cases h8 : ok = 0
  · refine r_if_ne0 (pc' := 61) rfl rfl (by omega) (by omega) ?_
    refine r_aload (pc' := 62) rfl rfl rfl ?_
    refine r_getr (pc' := 65) (v := 1) rfl rfl rfl rfl rfl ?_
    refine r_getv (pc' := 68) (v := (tkB (S 2) (S 1 1) e1)) rfl rfl (Or.inl rfl) rfl rfl ?_
    refine q_iret rfl rfl rfl ?_
    rw [if_pos h8] at hP
    have zb : 0 ≤ tkB (S 2) (S 1 1) e1 ∧ tkB (S 2) (S 1 1) e1 ≤ 200 := hB1 1 2
    exact ⟨_, e1, n, _, f1, g1, w1, hB1, rfl, rfl, by omega, hP.symm⟩
  · refine r_if_ne1 (pc' := 69) rfl rfl (by omega) (by omega) ?_
    refine r_aload (pc' := 70) rfl rfl rfl ?_
    refine r_dupr (pc' := 71) rfl rfl ?_
    refine r_getv (pc' := 74) (v := n) rfl rfl (Or.inl rfl) rfl rfl ?_
    refine r_const (pc' := 75) rfl rfl ?_
    refine r_iadd (pc' := 76) rfl rfl ?_
    refine r_put (pc' := 79) rfl rfl rfl rfl ?_
    refine r_aload (pc' := 80) rfl rfl rfl ?_
    refine r_getr (pc' := 83) (v := 1) rfl rfl rfl rfl rfl ?_
    refine r_getv (pc' := 86) (v := (tkK (S 2) (S 1 1) e1)) rfl rfl (Or.inl rfl) rfl rfl ?_
    by_cases h9 : (tkK (S 2) (S 1 1) e1) = 0
    · refine r_if_ne0 (pc' := 89) rfl rfl (by omega) (by omega) ?_
      refine r_const (pc' := 90) rfl rfl ?_
      refine q_iret rfl rfl rfl ?_
      rw [if_neg h8, if_pos h9] at hP
      have zb : 0 ≤ tkB (S 2) (S 1 1) e1 ∧ tkB (S 2) (S 1 1) e1 ≤ 200 := hB1 1 2
      exact ⟨_, e1, n + 1, _, f1, g1, w1, (Bd_up hB1 (show (0 : Int) ≤ (n + 1) from by omega) (show (n + 1) ≤ (20 : Int) from by omega)), FM_u31, rfl, by omega, hP.symm⟩
    · refine r_if_ne1 (pc' := 91) rfl rfl (by omega) (by omega) ?_
      refine r_aload (pc' := 92) rfl rfl rfl ?_
      refine r_getr (pc' := 95) (v := 1) rfl rfl rfl rfl rfl ?_
      by_cases h10 : (mx_up (FM S e1 n (ur2 RR n R1) f1 g1 w1) 3 1 (n + 1)) 1 4 = 3 ∧ (mx_up (FM S e1 n (ur2 RR n R1) f1 g1 w1) 3 1 (n + 1)) 2 ((mx_up (FM S e1 n (ur2 RR n R1) f1 g1 w1) 3 1 (n + 1)) 1 2) = 59
      · skip
        refine q_callE (pc' := 98) (w := some (.inl 1)) (S2 := mx_up (FM S e1 n (ur2 RR n R1) f1 g1 w1) 3 1 (n + 1)) (st' := [.inl 1]) rfl rfl rfl (bi_pos h10 (c_X8_isSemicolon  (S := mx_up (FM S e1 n (ur2 RR n R1) f1 g1 w1) 3 1 (n + 1)) (Bd_up hB1 (show (0 : Int) ≤ (n + 1) from by omega) (show (n + 1) ≤ (20 : Int) from by omega)) (show (mx_up (FM S e1 n (ur2 RR n R1) f1 g1 w1) 3 1 (n + 1)) 1 4 = 3 → (mx_up (FM S e1 n (ur2 RR n R1) f1 g1 w1) 3 1 (n + 1)) 1 2 < 200 from by exact fun z => Int.lt_of_lt_of_le (tkK_n (T := (mx_up (FM S e1 n (ur2 RR n R1) f1 g1 w1) 3 1 (n + 1)) 2) (n := (mx_up (FM S e1 n (ur2 RR n R1) f1 g1 w1) 3 1 (n + 1)) 1 1) (e := e1) (fun y => by have z : tkK ((mx_up (FM S e1 n (ur2 RR n R1) f1 g1 w1) 3 1 (n + 1)) 2) ((mx_up (FM S e1 n (ur2 RR n R1) f1 g1 w1) 3 1 (n + 1)) 1 1) e1 = 3 := z; omega)) b11.2))) (by decide) rfl rfl (Nat.le_of_ble_eq_true rfl) (fun _ _ => ⟨_, _, rfl, rfl⟩) rfl rfl ?_
        refine r_if_eq0 (pc' := 101) rfl rfl (by decide) (by decide) ?_
        refine r_aload (pc' := 102) rfl rfl rfl ?_
        refine r_getv (pc' := 105) (v := (n + 1)) rfl rfl (Or.inl rfl) rfl rfl ?_
        refine r_const (pc' := 107) rfl rfl ?_
        by_cases h11 : (n + 1) = 20
        · refine r_icmp_ne0 (pc' := 110) rfl rfl (by omega) (by omega) ?_
          refine r_aload (pc' := 111) rfl rfl rfl ?_
          refine r_getr (pc' := 114) (v := 1) rfl rfl rfl rfl rfl ?_
          refine r_getv (pc' := 117) (v := (tkB (S 2) (S 1 1) e1)) rfl rfl (Or.inl rfl) rfl rfl ?_
          refine q_iret rfl rfl rfl ?_
          rw [if_neg h8, if_neg h9, if_neg (fun q => by first | exact absurd q.1 (by assumption) | exact q.2 (by omega))] at hP
          have zb : 0 ≤ tkB (S 2) (S 1 1) e1 ∧ tkB (S 2) (S 1 1) e1 ≤ 200 := hB1 1 2
          exact ⟨_, e1, n + 1, _, f1, g1, w1, (Bd_up hB1 (show (0 : Int) ≤ (n + 1) from by omega) (show (n + 1) ≤ (20 : Int) from by omega)), FM_u31, rfl, by omega, hP.symm⟩
        · refine r_icmp_ne1 (pc' := 118) rfl rfl (by omega) (by omega) ?_
          refine r_aload (pc' := 119) rfl rfl rfl ?_
          refine r_getr (pc' := 122) (v := 1) rfl rfl rfl rfl rfl ?_
          have hC12 : Bd (mx_up (FM S e1 n (ur2 RR n R1) f1 g1 w1) 3 1 (n + 1)) := (Bd_up hB1 (show (0 : Int) ≤ (n + 1) from by omega) (show (n + 1) ≤ (20 : Int) from by omega))
          refine q_callE (pc' := 125) (w := none) (S2 := stp (mx_up (FM S e1 n (ur2 RR n R1) f1 g1 w1) 3 1 (n + 1))) (st' := []) rfl rfl rfl (c_X8_step  (S := mx_up (FM S e1 n (ur2 RR n R1) f1 g1 w1) 3 1 (n + 1)) (Bd_up hB1 (show (0 : Int) ≤ (n + 1) from by omega) (show (n + 1) ≤ (20 : Int) from by omega)) ) (by decide) rfl rfl (Nat.le_of_ble_eq_true rfl) (fun _ _ => ⟨_, _, rfl, rfl⟩) rfl rfl ?_
          have hB13 : Bd (stp (mx_up (FM S e1 n (ur2 RR n R1) f1 g1 w1) 3 1 (n + 1))) := Bd_stp (Bd_up hB1 (show (0 : Int) ≤ (n + 1) from by omega) (show (n + 1) ≤ (20 : Int) from by omega))
          refine r_goto (pc' := 36) rfl rfl ?_
          refine r_mem (show (stp (mx_up (FM S e1 n (ur2 RR n R1) f1 g1 w1) 3 1 (n + 1))) = FM S (tkQ (S 2) (S 1 1) e1) (n + 1) (ur2 RR n R1) f1 g1 w1 from by rw [FM_u31, FM_stp]) ?_
          exact ih36 ((tkQ (S 2) (S 1 1) e1), (n + 1), (ur2 RR n R1), f1, g1, w1) (show (0 ≤ (n + 1) ∧ (n + 1) < 20) ∧ (0 ≤ (tkQ (S 2) (S 1 1) e1) ∧ (tkQ (S 2) (S 1 1) e1) ≤ 200) ∧ (pfl (S 2) (S 1 1) (20 - (n + 1)).toNat (tkQ (S 2) (S 1 1) e1) (n + 1) (ur2 RR n R1) f1 g1 w1 = pfl (S 2) (S 1 1) 20 0 0 (fun x j => S (5 + x) j) (S 25 0) (S 25 6) (S 25 10)) ∧ (Bd (FM S (tkQ (S 2) (S 1 1) e1) (n + 1) (ur2 RR n R1) f1 g1 w1)) from by rw [if_neg h8, if_neg h9, if_pos ⟨by assumption, by omega⟩] at hP; exact ⟨by omega, tkQ_e ep b11.2, hP, by have q := hB13; rw [FM_u31, FM_stp] at q; exact q⟩) (show (20 - (n + 1)).toNat < (20 - n).toNat from by omega)
      · skip
        refine q_callE (pc' := 98) (w := some (.inl 0)) (S2 := mx_up (FM S e1 n (ur2 RR n R1) f1 g1 w1) 3 1 (n + 1)) (st' := [.inl 0]) rfl rfl rfl (bi_neg h10 (c_X8_isSemicolon  (S := mx_up (FM S e1 n (ur2 RR n R1) f1 g1 w1) 3 1 (n + 1)) (Bd_up hB1 (show (0 : Int) ≤ (n + 1) from by omega) (show (n + 1) ≤ (20 : Int) from by omega)) (show (mx_up (FM S e1 n (ur2 RR n R1) f1 g1 w1) 3 1 (n + 1)) 1 4 = 3 → (mx_up (FM S e1 n (ur2 RR n R1) f1 g1 w1) 3 1 (n + 1)) 1 2 < 200 from by exact fun z => Int.lt_of_lt_of_le (tkK_n (T := (mx_up (FM S e1 n (ur2 RR n R1) f1 g1 w1) 3 1 (n + 1)) 2) (n := (mx_up (FM S e1 n (ur2 RR n R1) f1 g1 w1) 3 1 (n + 1)) 1 1) (e := e1) (fun y => by have z : tkK ((mx_up (FM S e1 n (ur2 RR n R1) f1 g1 w1) 3 1 (n + 1)) 2) ((mx_up (FM S e1 n (ur2 RR n R1) f1 g1 w1) 3 1 (n + 1)) 1 1) e1 = 3 := z; omega)) b11.2))) (by decide) rfl rfl (Nat.le_of_ble_eq_true rfl) (fun _ _ => ⟨_, _, rfl, rfl⟩) rfl rfl ?_
        refine r_if_eq1 (pc' := 110) rfl rfl (by decide) (by decide) ?_
        refine r_aload (pc' := 111) rfl rfl rfl ?_
        refine r_getr (pc' := 114) (v := 1) rfl rfl rfl rfl rfl ?_
        refine r_getv (pc' := 117) (v := (tkB (S 2) (S 1 1) e1)) rfl rfl (Or.inl rfl) rfl rfl ?_
        refine q_iret rfl rfl rfl ?_
        rw [if_neg h8, if_neg h9, if_neg (fun q => by first | exact absurd q.1 (by assumption) | exact q.2 (by omega))] at hP
        have zb : 0 ≤ tkB (S 2) (S 1 1) e1 ∧ tkB (S 2) (S 1 1) e1 ≤ 200 := hB1 1 2
        exact ⟨_, e1, n + 1, _, f1, g1, w1, (Bd_up hB1 (show (0 : Int) ≤ (n + 1) from by omega) (show (n + 1) ≤ (20 : Int) from by omega)), FM_u31, rfl, by omega, hP.symm⟩
theorem c_X10_fault {S : rS} (hB : Bd S) : CS 10 22 [.inr (.inr 0)] S (fun r' S' => ∃ (ans e n : Int) (RR : Int → Int → Int) (f g w : Int), Bd S' ∧ S' = FM S e n RR f g w ∧ r' = some (.inl ans) ∧ (-1 ≤ ans ∧ ans ≤ 200) ∧ pfl (S 2) (S 1 1) 20 0 0 (fun x j => S (5 + x) j) (S 25 0) (S 25 6) (S 25 10) = (ans, n, RR)) := by
  refine RS.beg (ls := [some (.inr (.inr 0))]) rfl rfl rfl rfl rfl ?_
  refine r_aload (pc' := 1) rfl rfl rfl ?_
  refine r_getr (pc' := 4) (v := 3) rfl rfl rfl rfl rfl ?_
  refine r_aload (pc' := 5) rfl rfl rfl ?_
  refine r_getr (pc' := 8) (v := 25) rfl rfl rfl rfl rfl ?_
  refine q_call (pc' := 11) (P := fun r' S' => ∃ (ans e n : Int) (RR : Int → Int → Int) (f g w : Int), Bd S' ∧ S' = FM S e n RR f g w ∧ r' = some (.inl ans) ∧ (-1 ≤ ans ∧ ans ≤ 200) ∧ pfl (S 2) (S 1 1) 20 0 0 (fun x j => S (5 + x) j) (S 25 0) (S 25 6) (S 25 10) = (ans, n, RR)) rfl rfl rfl (c_X0_findFault  (S := S) hB ) (by decide) rfl rfl (Nat.le_of_ble_eq_true rfl) (fun _ _ => ⟨_, _, rfl, rfl⟩) rfl ?_
  intro r1 T1 hq1 hz1
  obtain ⟨ans1, e1, n1, RR1, f1, g1, w1, hB1, rfl, rfl, hrg1, hpf1⟩ := hq1
  show RS _ _ _ _ _ [.inl ans1] _
  refine q_iret rfl rfl rfl ?_
  exact ⟨_, e1, n1, RR1, f1, g1, w1, hB1, rfl, rfl, hrg1, hpf1⟩
