/-! CLAUSES, read -/
def ur (R : Int → Int) (k v : Int) : Int → Int := fun j => if j = k then v else R j
noncomputable def CM (S : rS) (c e : Int) (R : Int → Int) (f g w : Int) : rS := fun a j => if a = 1 ∧ j = 2 then tkB (S 2) (S 1 1) e else if a = 1 ∧ j = 4 then tkK (S 2) (S 1 1) e else if a = 1 ∧ j = 3 then tkQ (S 2) (S 1 1) e else if a = 3 ∧ j = 3 then f else if a = 3 ∧ j = 4 then g else if a = 3 ∧ j = 5 then w else if a = 5 + c then R j else S a j
theorem up_ap {S : rS} {a i v b j : Int} : mx_up S a i v b j = if b = a ∧ j = i then v else S b j := rfl
theorem CM_ap {S : rS} {c e f g w a j : Int} {R : Int → Int} : CM S c e R f g w a j = if a = 1 ∧ j = 2 then tkB (S 2) (S 1 1) e else if a = 1 ∧ j = 4 then tkK (S 2) (S 1 1) e else if a = 1 ∧ j = 3 then tkQ (S 2) (S 1 1) e else if a = 3 ∧ j = 3 then f else if a = 3 ∧ j = 4 then g else if a = 3 ∧ j = 5 then w else if a = 5 + c then R j else S a j := rfl
section
variable {S : rS} {c e : Int} {R : Int → Int} {f g w : Int}
theorem CM_o {a j : Int} (h1 : ¬ (a = 1 ∧ (j = 2 ∨ j = 3 ∨ j = 4))) (h2 : ¬ (a = 3 ∧ (j = 3 ∨ j = 4 ∨ j = 5))) (h3 : ¬ a = 5 + c) : CM S c e R f g w a j = S a j := by
  unfold CM
  rw [if_neg (by omega), if_neg (by omega), if_neg (by omega), if_neg (by omega), if_neg (by omega), if_neg (by omega), if_neg h3]
theorem CM_2 (hc : 0 ≤ c) : CM S c e R f g w 2 = S 2 := funext fun j => CM_o (by omega) (by omega) (by omega)
theorem CM_11 (hc : 0 ≤ c) : CM S c e R f g w 1 1 = S 1 1 := CM_o (by omega) (by omega) (by omega)
theorem CM_12 : CM S c e R f g w 1 2 = tkB (S 2) (S 1 1) e := rfl
theorem CM_14 : CM S c e R f g w 1 4 = tkK (S 2) (S 1 1) e := rfl
theorem CM_13 : CM S c e R f g w 1 3 = tkQ (S 2) (S 1 1) e := rfl
theorem CM_33 : CM S c e R f g w 3 3 = f := rfl
theorem CM_34 : CM S c e R f g w 3 4 = g := rfl
theorem CM_35 : CM S c e R f g w 3 5 = w := rfl
theorem CM_r (hc : 0 ≤ c) {j : Int} : CM S c e R f g w (5 + c) j = R j := by
  unfold CM
  rw [if_neg (by omega), if_neg (by omega), if_neg (by omega), if_neg (by omega), if_neg (by omega), if_neg (by omega), if_pos rfl]
theorem CM_stp (hc : 0 ≤ c) : stp (CM S c e R f g w) = CM S c (tkQ (S 2) (S 1 1) e) R f g w := by
  unfold stp tkS
  rw [CM_2 hc, CM_11 hc, CM_13]
  funext a j
  rw [up_ap, up_ap, up_ap, CM_ap, CM_ap]
  by_cases h0 : a = 1 ∧ j = 2
  · repeat (first | rw [if_neg (by omega)] | rw [if_pos (by omega)])
  by_cases h1 : a = 1 ∧ j = 4
  · repeat (first | rw [if_neg (by omega)] | rw [if_pos (by omega)])
  by_cases h2 : a = 1 ∧ j = 3
  · repeat (first | rw [if_neg (by omega)] | rw [if_pos (by omega)])
  by_cases h3 : a = 3 ∧ j = 3
  · repeat (first | rw [if_neg (by omega)] | rw [if_pos (by omega)])
  by_cases h4 : a = 3 ∧ j = 4
  · repeat (first | rw [if_neg (by omega)] | rw [if_pos (by omega)])
  by_cases h5 : a = 3 ∧ j = 5
  · repeat (first | rw [if_neg (by omega)] | rw [if_pos (by omega)])
  by_cases h6 : a = 5 + c
  · repeat (first | rw [if_neg (by omega)] | rw [if_pos (by omega)])
  repeat (first | rw [if_neg (by omega)] | rw [if_pos (by omega)])
theorem CM_u33 {v : Int} : mx_up (CM S c e R f g w) 3 3 v = CM S c e R v g w := by
  funext a j
  rw [up_ap, CM_ap, CM_ap]
  by_cases h0 : a = 1 ∧ j = 2
  · repeat (first | rw [if_neg (by omega)] | rw [if_pos (by omega)])
  by_cases h1 : a = 1 ∧ j = 4
  · repeat (first | rw [if_neg (by omega)] | rw [if_pos (by omega)])
  by_cases h2 : a = 1 ∧ j = 3
  · repeat (first | rw [if_neg (by omega)] | rw [if_pos (by omega)])
  by_cases h3 : a = 3 ∧ j = 3
  · repeat (first | rw [if_neg (by omega)] | rw [if_pos (by omega)])
  by_cases h4 : a = 3 ∧ j = 4
  · repeat (first | rw [if_neg (by omega)] | rw [if_pos (by omega)])
  by_cases h5 : a = 3 ∧ j = 5
  · repeat (first | rw [if_neg (by omega)] | rw [if_pos (by omega)])
  by_cases h6 : a = 5 + c
  · repeat (first | rw [if_neg (by omega)] | rw [if_pos (by omega)])
  repeat (first | rw [if_neg (by omega)] | rw [if_pos (by omega)])
theorem CM_u34 {v : Int} : mx_up (CM S c e R f g w) 3 4 v = CM S c e R f v w := by
  funext a j
  rw [up_ap, CM_ap, CM_ap]
  by_cases h0 : a = 1 ∧ j = 2
  · repeat (first | rw [if_neg (by omega)] | rw [if_pos (by omega)])
  by_cases h1 : a = 1 ∧ j = 4
  · repeat (first | rw [if_neg (by omega)] | rw [if_pos (by omega)])
  by_cases h2 : a = 1 ∧ j = 3
  · repeat (first | rw [if_neg (by omega)] | rw [if_pos (by omega)])
  by_cases h3 : a = 3 ∧ j = 3
  · repeat (first | rw [if_neg (by omega)] | rw [if_pos (by omega)])
  by_cases h4 : a = 3 ∧ j = 4
  · repeat (first | rw [if_neg (by omega)] | rw [if_pos (by omega)])
  by_cases h5 : a = 3 ∧ j = 5
  · repeat (first | rw [if_neg (by omega)] | rw [if_pos (by omega)])
  by_cases h6 : a = 5 + c
  · repeat (first | rw [if_neg (by omega)] | rw [if_pos (by omega)])
  repeat (first | rw [if_neg (by omega)] | rw [if_pos (by omega)])
theorem CM_u35 {v : Int} : mx_up (CM S c e R f g w) 3 5 v = CM S c e R f g v := by
  funext a j
  rw [up_ap, CM_ap, CM_ap]
  by_cases h0 : a = 1 ∧ j = 2
  · repeat (first | rw [if_neg (by omega)] | rw [if_pos (by omega)])
  by_cases h1 : a = 1 ∧ j = 4
  · repeat (first | rw [if_neg (by omega)] | rw [if_pos (by omega)])
  by_cases h2 : a = 1 ∧ j = 3
  · repeat (first | rw [if_neg (by omega)] | rw [if_pos (by omega)])
  by_cases h3 : a = 3 ∧ j = 3
  · repeat (first | rw [if_neg (by omega)] | rw [if_pos (by omega)])
  by_cases h4 : a = 3 ∧ j = 4
  · repeat (first | rw [if_neg (by omega)] | rw [if_pos (by omega)])
  by_cases h5 : a = 3 ∧ j = 5
  · repeat (first | rw [if_neg (by omega)] | rw [if_pos (by omega)])
  by_cases h6 : a = 5 + c
  · repeat (first | rw [if_neg (by omega)] | rw [if_pos (by omega)])
  repeat (first | rw [if_neg (by omega)] | rw [if_pos (by omega)])
theorem CM_ur (hc : 0 ≤ c) {k v : Int} : mx_up (CM S c e R f g w) (5 + c) k v = CM S c e (ur R k v) f g w := by
  funext a j
  by_cases h : a = 5 + c
  · subst h
    rw [CM_r hc]; unfold mx_up ur
    by_cases hk : j = k
    · rw [if_pos ⟨rfl, hk⟩, if_pos hk]
    · rw [if_neg (fun q => hk q.2), if_neg hk]; exact CM_r hc
  · rw [up_ne (fun q => h q.1)]
    unfold CM
    rw [if_neg (show ¬ a = 5 + c from h), if_neg (show ¬ a = 5 + c from h)]
end
noncomputable def V1 (T : Int → Int) (n e : Int) : Int := if tkK T n e = 2 then if 2 < tkQ T n e - tkB T n e then -1 else vl2 T (tkB T n e) (tkQ T n e - tkB T n e) else -1
theorem CM_val {S : rS} {c e : Int} {R : Int → Int} {f g w : Int} (hc : 0 ≤ c) : valc (CM S c e R f g w) = V1 (S 2) (S 1 1) e := by
  unfold valc V1
  rw [CM_14, CM_13, CM_12, CM_2 hc]
/-- of which sort a clause is, by its token -/
noncomputable def csT (T : Int → Int) (n e : Int) : Int := v_X0_clauseSort (tkS (fun _ j => T j) (tkB T n e) (tkK T n e) (tkQ T n e))
theorem cso_cg {S S' : rS} (h2 : S 1 2 = S' 1 2) (h3 : S 1 3 = S' 1 3) (h4 : S 1 4 = S' 1 4) (h : S 2 = S' 2) : v_X0_clauseSort S = v_X0_clauseSort S' := by
  unfold v_X0_clauseSort; rw [h2, h3, h4, h]
theorem CM_cs {S : rS} {c e : Int} {R : Int → Int} {f g w : Int} (hc : 0 ≤ c) : v_X0_clauseSort (CM S c e R f g w) = csT (S 2) (S 1 1) e := cso_cg rfl rfl rfl (CM_2 hc)
def hrT (f g w k : Int) : Int := if k = 4 then 1 else if k = 5 then (if g < 9 then 1 else 0) else if k = 6 then (if w < 8 then 1 else 0) else if k = 7 then 1 else if f < 7 then 1 else 0
theorem CM_hr {S : rS} {c e : Int} {R : Int → Int} {f g w k : Int} : v_X0_hasRoomFor (CM S c e R f g w) k = hrT f g w k := rfl
abbrev PR := Int × Int × (Int → Int) × Int × Int × Int
noncomputable def CMr (S : rS) (c : Int) (r : PR) : rS := CM S c r.2.1 r.2.2.1 r.2.2.2.1 r.2.2.2.2.1 r.2.2.2.2.2
noncomputable def pnm (T : Int → Int) (n k e : Int) (R : Int → Int) (lo hi f g w : Int) : PR := if V1 T n e = -1 then (0, e, R, f, g, w) else if V1 T n e < lo then (0, e, R, f, g, w) else if hi < V1 T n e then (0, e, R, f, g, w) else (1, tkQ T n e, ur R k (V1 T n e), f, g, w)
noncomputable def pln (T : Int → Int) (n e : Int) (R : Int → Int) (f g w : Int) : PR := if tkK T n e = 1 then if 8 < tkQ T n e - tkB T n e then (0, e, R, f, g, w) else (1, tkQ T n e, ur (ur R 4 (tkB T n e)) 5 (tkQ T n e - tkB T n e), f, g, w) else (0, e, R, f, g, w)
noncomputable def pgt (T : Int → Int) (n e : Int) (R : Int → Int) (f g w : Int) : PR :=
  if (pnm T n 1 e R 0 (f - 1) f g w).1 = 0 then (0, (pnm T n 1 e R 0 (f - 1) f g w).2) else
  if V1 T n (tkQ T n e) = V1 T n e then (0, (pnm T n 1 e R 0 (f - 1) f g w).2) else
  if (pnm T n 2 (tkQ T n e) (ur R 1 (V1 T n e)) 0 (f - 1) f g w).1 = 0 then (0, (pnm T n 2 (tkQ T n e) (ur R 1 (V1 T n e)) 0 (f - 1) f g w).2) else
  if (pnm T n 3 (tkQ T n (tkQ T n e)) (ur (ur R 1 (V1 T n e)) 2 (V1 T n (tkQ T n e))) 1 30 f g w).1 = 0 then (0, (pnm T n 3 (tkQ T n (tkQ T n e)) (ur (ur R 1 (V1 T n e)) 2 (V1 T n (tkQ T n e))) 1 30 f g w).2) else
  (1, (pnm T n 3 (tkQ T n (tkQ T n e)) (ur (ur R 1 (V1 T n e)) 2 (V1 T n (tkQ T n e))) 1 30 f g w).2)
noncomputable def pcl (T : Int → Int) (n e : Int) (R : Int → Int) (f g w : Int) : PR :=
  if csT T n e = -1 then (0, e, R, f, g, w) else if hrT f g w (csT T n e) = 0 then (0, e, R, f, g, w) else
  if csT T n e = 4 then (1, tkQ T n e, ur R 0 (csT T n e), 0, 0, 0) else
  if csT T n e = 5 then pgt T n (tkQ T n e) (ur R 0 (csT T n e)) f (g + 1) w else
  if csT T n e = 6 then pln T n (tkQ T n e) (ur R 0 (csT T n e)) f g (w + 1) else
  if csT T n e = 7 then pnm T n 1 (tkQ T n e) (ur R 0 (csT T n e)) 10 99 f g w else
  if (pnm T n 1 (tkQ T n e) (ur R 0 (csT T n e)) 0 3 (f + 1) g w).1 = 0 then (0, (pnm T n 1 (tkQ T n e) (ur R 0 (csT T n e)) 0 3 (f + 1) g w).2) else
  if (pnm T n 2 (tkQ T n (tkQ T n e)) (ur (ur R 0 (csT T n e)) 1 (V1 T n (tkQ T n e))) 1 9 (f + 1) g w).1 = 0 then (0, (pnm T n 2 (tkQ T n (tkQ T n e)) (ur (ur R 0 (csT T n e)) 1 (V1 T n (tkQ T n e))) 1 9 (f + 1) g w).2) else
  if (pln T n (tkQ T n (tkQ T n (tkQ T n e))) (ur (ur (ur R 0 (csT T n e)) 1 (V1 T n (tkQ T n e))) 2 (V1 T n (tkQ T n (tkQ T n e)))) (f + 1) g w).1 = 0 then (0, (pln T n (tkQ T n (tkQ T n (tkQ T n e))) (ur (ur (ur R 0 (csT T n e)) 1 (V1 T n (tkQ T n e))) 2 (V1 T n (tkQ T n (tkQ T n e)))) (f + 1) g w).2) else
  (1, (pln T n (tkQ T n (tkQ T n (tkQ T n e))) (ur (ur (ur R 0 (csT T n e)) 1 (V1 T n (tkQ T n e))) 2 (V1 T n (tkQ T n (tkQ T n e)))) (f + 1) g w).2)
theorem pnm_1 {T : Int → Int} {n k e lo hi f g w : Int} {R : Int → Int} (h : ¬ (pnm T n k e R lo hi f g w).1 = 0) : pnm T n k e R lo hi f g w = (1, tkQ T n e, ur R k (V1 T n e), f, g, w) ∧ V1 T n e ≠ -1 ∧ lo ≤ V1 T n e ∧ V1 T n e ≤ hi := by
  unfold pnm at h ⊢
  by_cases h1 : V1 T n e = -1
  · rw [if_pos h1] at h; exact absurd rfl h
  by_cases h2 : V1 T n e < lo
  · rw [if_neg h1, if_pos h2] at h; exact absurd rfl h
  by_cases h3 : hi < V1 T n e
  · rw [if_neg h1, if_neg h2, if_pos h3] at h; exact absurd rfl h
  rw [if_neg h1, if_neg h2, if_neg h3]
  exact ⟨rfl, h1, by omega, by omega⟩
theorem pnm_0 {T : Int → Int} {n k e lo hi f g w : Int} {R : Int → Int} (h : (pnm T n k e R lo hi f g w).1 = 0) : pnm T n k e R lo hi f g w = (0, e, R, f, g, w) ∧ ¬ (V1 T n e ≠ -1 ∧ lo ≤ V1 T n e ∧ V1 T n e ≤ hi) := by
  unfold pnm at h ⊢
  by_cases h1 : V1 T n e = -1
  · rw [if_pos h1]; exact ⟨rfl, fun q => q.1 h1⟩
  by_cases h2 : V1 T n e < lo
  · rw [if_neg h1, if_pos h2]; exact ⟨rfl, fun q => by omega⟩
  by_cases h3 : hi < V1 T n e
  · rw [if_neg h1, if_neg h2, if_pos h3]; exact ⟨rfl, fun q => by omega⟩
  rw [if_neg h1, if_neg h2, if_neg h3] at h
  exact absurd h (show ¬ (1 : Int) = 0 by decide)
section
variable {S : rS} {c e : Int} {R : Int → Int} {f g w : Int}
theorem nm_1 (hc : 0 ≤ c) {lo hi : Int} : w_X0_readNumber_1 (CM S c e R f g w) c lo hi = ((pnm (S 2) (S 1 1) 1 e R lo hi f g w).1, CMr S c (pnm (S 2) (S 1 1) 1 e R lo hi f g w)) := by
  unfold w_X0_readNumber_1 pnm
  rw [CM_val hc]
  by_cases h1 : V1 (S 2) (S 1 1) e = -1
  · rw [if_pos h1, if_pos h1]; rfl
  by_cases h2 : V1 (S 2) (S 1 1) e < lo
  · rw [if_neg h1, if_pos h2, if_neg h1, if_pos h2]; rfl
  by_cases h3 : hi < V1 (S 2) (S 1 1) e
  · rw [if_neg h1, if_neg h2, if_pos h3, if_neg h1, if_neg h2, if_pos h3]; rfl
  rw [if_neg h1, if_neg h2, if_neg h3, if_neg h1, if_neg h2, if_neg h3, CM_ur hc, CM_stp hc]; rfl
theorem nm_2 (hc : 0 ≤ c) {lo hi : Int} : w_X0_readNumber_2 (CM S c e R f g w) c lo hi = ((pnm (S 2) (S 1 1) 2 e R lo hi f g w).1, CMr S c (pnm (S 2) (S 1 1) 2 e R lo hi f g w)) := by
  unfold w_X0_readNumber_2 pnm
  rw [CM_val hc]
  by_cases h1 : V1 (S 2) (S 1 1) e = -1
  · rw [if_pos h1, if_pos h1]; rfl
  by_cases h2 : V1 (S 2) (S 1 1) e < lo
  · rw [if_neg h1, if_pos h2, if_neg h1, if_pos h2]; rfl
  by_cases h3 : hi < V1 (S 2) (S 1 1) e
  · rw [if_neg h1, if_neg h2, if_pos h3, if_neg h1, if_neg h2, if_pos h3]; rfl
  rw [if_neg h1, if_neg h2, if_neg h3, if_neg h1, if_neg h2, if_neg h3, CM_ur hc, CM_stp hc]; rfl
theorem nm_3 (hc : 0 ≤ c) {lo hi : Int} : w_X0_readNumber_3 (CM S c e R f g w) c lo hi = ((pnm (S 2) (S 1 1) 3 e R lo hi f g w).1, CMr S c (pnm (S 2) (S 1 1) 3 e R lo hi f g w)) := by
  unfold w_X0_readNumber_3 pnm
  rw [CM_val hc]
  by_cases h1 : V1 (S 2) (S 1 1) e = -1
  · rw [if_pos h1, if_pos h1]; rfl
  by_cases h2 : V1 (S 2) (S 1 1) e < lo
  · rw [if_neg h1, if_pos h2, if_neg h1, if_pos h2]; rfl
  by_cases h3 : hi < V1 (S 2) (S 1 1) e
  · rw [if_neg h1, if_neg h2, if_pos h3, if_neg h1, if_neg h2, if_pos h3]; rfl
  rw [if_neg h1, if_neg h2, if_neg h3, if_neg h1, if_neg h2, if_neg h3, CM_ur hc, CM_stp hc]; rfl
theorem ln_c (hc : 0 ≤ c) : w_X0_readLine (CM S c e R f g w) c = ((pln (S 2) (S 1 1) e R f g w).1, CMr S c (pln (S 2) (S 1 1) e R f g w)) := by
  unfold w_X0_readLine pln
  rw [CM_14, CM_13, CM_12]
  by_cases h1 : tkK (S 2) (S 1 1) e = 1
  · by_cases h2 : 8 < tkQ (S 2) (S 1 1) e - tkB (S 2) (S 1 1) e
    · rw [if_pos h1, if_pos h2, if_pos h1, if_pos h2]; rfl
    · rw [if_pos h1, if_neg h2, if_pos h1, if_neg h2, CM_ur hc, CM_ur hc, CM_stp hc]; rfl
  · rw [if_neg h1, if_neg h1]; rfl
theorem gt_c (hc : 0 ≤ c) : w_X0_readGate (CM S c e R f g w) c = ((pgt (S 2) (S 1 1) e R f g w).1, CMr S c (pgt (S 2) (S 1 1) e R f g w)) := by
  unfold w_X0_readGate pgt
  rw [CM_33, nm_1 hc]
  by_cases h1 : (pnm (S 2) (S 1 1) 1 e R 0 (f - 1) f g w).1 = 0
  · rw [if_pos h1, if_pos h1]; rfl
  rw [if_neg h1, if_neg h1]
  rw [(pnm_1 h1).1]
  show (if valc (CM S c (tkQ (S 2) (S 1 1) e) (ur R 1 (V1 (S 2) (S 1 1) e)) f g w) = CM S c (tkQ (S 2) (S 1 1) e) (ur R 1 (V1 (S 2) (S 1 1) e)) f g w (5 + c) 1 then (0, CM S c (tkQ (S 2) (S 1 1) e) (ur R 1 (V1 (S 2) (S 1 1) e)) f g w) else if (w_X0_readNumber_2 (CM S c (tkQ (S 2) (S 1 1) e) (ur R 1 (V1 (S 2) (S 1 1) e)) f g w) c 0 (f - 1)).1 = 0 then (0, (w_X0_readNumber_2 (CM S c (tkQ (S 2) (S 1 1) e) (ur R 1 (V1 (S 2) (S 1 1) e)) f g w) c 0 (f - 1)).2) else if (w_X0_readNumber_3 (w_X0_readNumber_2 (CM S c (tkQ (S 2) (S 1 1) e) (ur R 1 (V1 (S 2) (S 1 1) e)) f g w) c 0 (f - 1)).2 c 1 30).1 = 0 then (0, (w_X0_readNumber_3 (w_X0_readNumber_2 (CM S c (tkQ (S 2) (S 1 1) e) (ur R 1 (V1 (S 2) (S 1 1) e)) f g w) c 0 (f - 1)).2 c 1 30).2) else (1, (w_X0_readNumber_3 (w_X0_readNumber_2 (CM S c (tkQ (S 2) (S 1 1) e) (ur R 1 (V1 (S 2) (S 1 1) e)) f g w) c 0 (f - 1)).2 c 1 30).2)) = _
  rw [CM_val hc, CM_r hc, show ur R 1 (V1 (S 2) (S 1 1) e) 1 = V1 (S 2) (S 1 1) e from if_pos rfl]
  by_cases h2 : V1 (S 2) (S 1 1) (tkQ (S 2) (S 1 1) e) = V1 (S 2) (S 1 1) e
  · rw [if_pos h2, if_pos h2]; rfl
  rw [if_neg h2, if_neg h2, nm_2 hc]
  by_cases h3 : (pnm (S 2) (S 1 1) 2 (tkQ (S 2) (S 1 1) e) (ur R 1 (V1 (S 2) (S 1 1) e)) 0 (f - 1) f g w).1 = 0
  · rw [if_pos h3, if_pos h3]; rfl
  rw [if_neg h3, if_neg h3, (pnm_1 h3).1]
  show (if (w_X0_readNumber_3 (CM S c (tkQ (S 2) (S 1 1) (tkQ (S 2) (S 1 1) e)) (ur (ur R 1 (V1 (S 2) (S 1 1) e)) 2 (V1 (S 2) (S 1 1) (tkQ (S 2) (S 1 1) e))) f g w) c 1 30).1 = 0 then (0, (w_X0_readNumber_3 (CM S c (tkQ (S 2) (S 1 1) (tkQ (S 2) (S 1 1) e)) (ur (ur R 1 (V1 (S 2) (S 1 1) e)) 2 (V1 (S 2) (S 1 1) (tkQ (S 2) (S 1 1) e))) f g w) c 1 30).2) else (1, (w_X0_readNumber_3 (CM S c (tkQ (S 2) (S 1 1) (tkQ (S 2) (S 1 1) e)) (ur (ur R 1 (V1 (S 2) (S 1 1) e)) 2 (V1 (S 2) (S 1 1) (tkQ (S 2) (S 1 1) e))) f g w) c 1 30).2)) = _
  rw [nm_3 hc]
  by_cases h4 : (pnm (S 2) (S 1 1) 3 (tkQ (S 2) (S 1 1) (tkQ (S 2) (S 1 1) e)) (ur (ur R 1 (V1 (S 2) (S 1 1) e)) 2 (V1 (S 2) (S 1 1) (tkQ (S 2) (S 1 1) e))) 1 30 f g w).1 = 0
  · rw [if_pos h4, if_pos h4]; rfl
  · rw [if_neg h4, if_neg h4]; rfl
theorem cl_c (hc : 0 ≤ c) : w_X0_readClause (CM S c e R f g w) c = ((pcl (S 2) (S 1 1) e R f g w).1, CMr S c (pcl (S 2) (S 1 1) e R f g w)) := by
  unfold w_X0_readClause pcl
  rw [CM_cs hc, CM_hr, CM_ur hc, CM_stp hc, CM_33, CM_34, CM_35, CM_u33, CM_u33, CM_u34, CM_u34, CM_u35, CM_u35]
  generalize hk : csT (S 2) (S 1 1) e = k
  by_cases h1 : k = -1
  · rw [if_pos h1, if_pos h1]; rfl
  rw [if_neg h1, if_neg h1]
  by_cases h2 : hrT f g w k = 0
  · rw [if_pos h2, if_pos h2]; rfl
  rw [if_neg h2, if_neg h2]
  by_cases h3 : k = 4
  · rw [if_pos h3, if_pos h3]; rfl
  rw [if_neg h3, if_neg h3]
  by_cases h4 : k = 5
  · rw [if_pos h4, if_pos h4, gt_c hc]
  rw [if_neg h4, if_neg h4]
  by_cases h5 : k = 6
  · rw [if_pos h5, if_pos h5, ln_c hc]
  rw [if_neg h5, if_neg h5]
  by_cases h6 : k = 7
  · rw [if_pos h6, if_pos h6, nm_1 hc]
  rw [if_neg h6, if_neg h6, nm_1 hc]
  by_cases h7 : (pnm (S 2) (S 1 1) 1 (tkQ (S 2) (S 1 1) e) (ur R 0 k) 0 3 (f + 1) g w).1 = 0
  · rw [if_pos h7, if_pos h7]; rfl
  rw [if_neg h7, if_neg h7, (pnm_1 h7).1]
  show (if (w_X0_readNumber_2 (CM S c (tkQ (S 2) (S 1 1) (tkQ (S 2) (S 1 1) e)) (ur (ur R 0 k) 1 (V1 (S 2) (S 1 1) (tkQ (S 2) (S 1 1) e))) (f + 1) g w) c 1 9).1 = 0 then _ else _) = _
  unfold CMr
  show (if (w_X0_readNumber_2 (CM S c (tkQ (S 2) (S 1 1) (tkQ (S 2) (S 1 1) e)) (ur (ur R 0 k) 1 (V1 (S 2) (S 1 1) (tkQ (S 2) (S 1 1) e))) (f + 1) g w) c 1 9).1 = 0 then (0, (w_X0_readNumber_2 (CM S c (tkQ (S 2) (S 1 1) (tkQ (S 2) (S 1 1) e)) (ur (ur R 0 k) 1 (V1 (S 2) (S 1 1) (tkQ (S 2) (S 1 1) e))) (f + 1) g w) c 1 9).2) else if (w_X0_readLine (w_X0_readNumber_2 (CM S c (tkQ (S 2) (S 1 1) (tkQ (S 2) (S 1 1) e)) (ur (ur R 0 k) 1 (V1 (S 2) (S 1 1) (tkQ (S 2) (S 1 1) e))) (f + 1) g w) c 1 9).2 c).1 = 0 then (0, (w_X0_readLine (w_X0_readNumber_2 (CM S c (tkQ (S 2) (S 1 1) (tkQ (S 2) (S 1 1) e)) (ur (ur R 0 k) 1 (V1 (S 2) (S 1 1) (tkQ (S 2) (S 1 1) e))) (f + 1) g w) c 1 9).2 c).2) else (1, (w_X0_readLine (w_X0_readNumber_2 (CM S c (tkQ (S 2) (S 1 1) (tkQ (S 2) (S 1 1) e)) (ur (ur R 0 k) 1 (V1 (S 2) (S 1 1) (tkQ (S 2) (S 1 1) e))) (f + 1) g w) c 1 9).2 c).2)) = _
  rw [nm_2 hc]
  by_cases h8 : (pnm (S 2) (S 1 1) 2 (tkQ (S 2) (S 1 1) (tkQ (S 2) (S 1 1) e)) (ur (ur R 0 k) 1 (V1 (S 2) (S 1 1) (tkQ (S 2) (S 1 1) e))) 1 9 (f + 1) g w).1 = 0
  · rw [if_pos h8, if_pos h8]; rfl
  rw [if_neg h8, if_neg h8, (pnm_1 h8).1]
  show (if (w_X0_readLine (CM S c (tkQ (S 2) (S 1 1) (tkQ (S 2) (S 1 1) (tkQ (S 2) (S 1 1) e))) (ur (ur (ur R 0 k) 1 (V1 (S 2) (S 1 1) (tkQ (S 2) (S 1 1) e))) 2 (V1 (S 2) (S 1 1) (tkQ (S 2) (S 1 1) (tkQ (S 2) (S 1 1) e)))) (f + 1) g w) c).1 = 0 then (0, (w_X0_readLine (CM S c (tkQ (S 2) (S 1 1) (tkQ (S 2) (S 1 1) (tkQ (S 2) (S 1 1) e))) (ur (ur (ur R 0 k) 1 (V1 (S 2) (S 1 1) (tkQ (S 2) (S 1 1) e))) 2 (V1 (S 2) (S 1 1) (tkQ (S 2) (S 1 1) (tkQ (S 2) (S 1 1) e)))) (f + 1) g w) c).2) else (1, (w_X0_readLine (CM S c (tkQ (S 2) (S 1 1) (tkQ (S 2) (S 1 1) (tkQ (S 2) (S 1 1) e))) (ur (ur (ur R 0 k) 1 (V1 (S 2) (S 1 1) (tkQ (S 2) (S 1 1) e))) 2 (V1 (S 2) (S 1 1) (tkQ (S 2) (S 1 1) (tkQ (S 2) (S 1 1) e)))) (f + 1) g w) c).2)) = _
  rw [ln_c hc]
  by_cases h9 : (pln (S 2) (S 1 1) (tkQ (S 2) (S 1 1) (tkQ (S 2) (S 1 1) (tkQ (S 2) (S 1 1) e))) (ur (ur (ur R 0 k) 1 (V1 (S 2) (S 1 1) (tkQ (S 2) (S 1 1) e))) 2 (V1 (S 2) (S 1 1) (tkQ (S 2) (S 1 1) (tkQ (S 2) (S 1 1) e)))) (f + 1) g w).1 = 0
  · rw [if_pos h9, if_pos h9]; rfl
  · rw [if_neg h9, if_neg h9]; rfl
end
