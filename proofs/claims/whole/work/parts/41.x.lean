/-! THE REFERENCE's READER, clause by clause -/
def urb (M : Int → Int) (b : Int) (g : Int → Int) (m : Int) : Int → Int := fun j => if b ≤ j ∧ j < b + m then g (j - b) else M j
def urf (M : Int → Int) (g : Int → Int) (m : Int) : Int → Int := fun j => if 0 ≤ j ∧ j < m then g j else M j
def R5 (S : rS) (q b t wd v c : Int) (M : Int → Int) : rS := fun a j => if a = 234 then M j else if a = 232 ∧ j = 15 then q else if a = 232 ∧ j = 16 then b else if a = 232 ∧ j = 17 then t else if a = 232 ∧ j = 18 then wd else if a = 232 ∧ j = 19 then v else if a = 232 ∧ j = 20 then c else S a j
theorem R5_ap {S : rS} {q b t wd v c a j : Int} {M : Int → Int} : R5 S q b t wd v c M a j = if a = 234 then M j else if a = 232 ∧ j = 15 then q else if a = 232 ∧ j = 16 then b else if a = 232 ∧ j = 17 then t else if a = 232 ∧ j = 18 then wd else if a = 232 ∧ j = 19 then v else if a = 232 ∧ j = 20 then c else S a j := rfl
noncomputable def RM (S : rS) (e c : Int) (M : Int → Int) : rS := R5 S (tkQ (S 240) (S 232 9) e) (tkB (S 240) (S 232 9) e) (rtk (S 240) (S 232 9) e) (rwd (S 240) (S 232 9) e) (rvl (S 240) (S 232 9) e) c M
section
variable {S : rS} {q b t wd v c e : Int} {M : Int → Int}
theorem R5_o {a j : Int} (h1 : ¬ a = 234) (h2 : ¬ (a = 232 ∧ 15 ≤ j ∧ j ≤ 20)) : R5 S q b t wd v c M a j = S a j := by
  unfold R5
  rw [if_neg h1, if_neg (by omega), if_neg (by omega), if_neg (by omega), if_neg (by omega), if_neg (by omega), if_neg (by omega)]
theorem R5_st5 {q' b' t' wd' v' : Int} : st5 (R5 S q b t wd v c M) q' b' wd' v' t' = R5 S q' b' t' wd' v' c M := by
  funext a j
  unfold st5
  rw [up_ap, up_ap, up_ap, up_ap, up_ap, R5_ap, R5_ap]
  by_cases h0 : a = 234
  · repeat (first | rw [if_neg (by omega)] | rw [if_pos (by omega)])
  by_cases h1 : a = 232 ∧ j = 15
  · repeat (first | rw [if_neg (by omega)] | rw [if_pos (by omega)])
  by_cases h2 : a = 232 ∧ j = 16
  · repeat (first | rw [if_neg (by omega)] | rw [if_pos (by omega)])
  by_cases h3 : a = 232 ∧ j = 17
  · repeat (first | rw [if_neg (by omega)] | rw [if_pos (by omega)])
  by_cases h4 : a = 232 ∧ j = 18
  · repeat (first | rw [if_neg (by omega)] | rw [if_pos (by omega)])
  by_cases h5 : a = 232 ∧ j = 19
  · repeat (first | rw [if_neg (by omega)] | rw [if_pos (by omega)])
  by_cases h6 : a = 232 ∧ j = 20
  · repeat (first | rw [if_neg (by omega)] | rw [if_pos (by omega)])
  repeat (first | rw [if_neg (by omega)] | rw [if_pos (by omega)])
theorem R5_stM : stM (R5 S q b t wd v c M) = RM S q c M := R5_st5
theorem RM_stM : stM (RM S e c M) = RM S (tkQ (S 240) (S 232 9) e) c M := R5_st5
theorem R5_up {k x : Int} : mx_up (R5 S q b t wd v c M) 234 k x = R5 S q b t wd v c (ur M k x) := by
  funext a j
  rw [up_ap, R5_ap, R5_ap]; unfold ur
  by_cases h0 : a = 234
  · rw [if_pos h0]
    by_cases h1 : j = k
    · rw [if_pos ⟨h0, h1⟩, if_pos h0, if_pos h1]
    · rw [if_neg (fun z => h1 z.2), if_pos h0, if_neg h1]
  · rw [if_neg (fun z => h0 z.1), if_neg h0, if_neg h0]
theorem RM_up {k x : Int} : mx_up (RM S e c M) 234 k x = RM S e c (ur M k x) := R5_up
theorem RM_c {x : Int} : mx_up (RM S e c M) 232 20 x = RM S e x M := by
  unfold RM
  funext a j
  rw [up_ap, R5_ap, R5_ap]
  by_cases h6 : a = 232 ∧ j = 20
  · repeat (first | rw [if_neg (by omega)] | rw [if_pos (by omega)])
  · rw [if_neg h6, if_neg h6, if_neg h6]
theorem RM_flb {k m : Int} {g : Int → Int} : flb (RM S e c M) 234 k g m = RM S e c (urb M k g m) := by
  unfold RM
  funext a j
  unfold flb urb
  rw [R5_ap, R5_ap]
  by_cases h0 : a = 234
  · rw [if_pos h0, if_pos h0]
    by_cases h1 : k ≤ j ∧ j < k + m
    · rw [if_pos ⟨h0, h1⟩, if_pos h1]
    · rw [if_neg (fun z => h1 z.2), if_neg h1]
  · rw [if_neg (fun z => h0 z.1), if_neg h0, if_neg h0]
theorem RM_fl {m : Int} {g : Int → Int} : fl (RM S e c M) 234 g m = RM S e c (urf M g m) := by
  unfold RM
  funext a j
  unfold fl urf
  rw [R5_ap, R5_ap]
  by_cases h0 : a = 234
  · rw [if_pos h0, if_pos h0]
    by_cases h1 : 0 ≤ j ∧ j < m
    · rw [if_pos ⟨h0, h1⟩, if_pos h1]
    · rw [if_neg (fun z => h1 z.2), if_neg h1]
  · rw [if_neg (fun z => h0 z.1), if_neg h0, if_neg h0]
theorem RM_234 : RM S e c M 234 = M := rfl
theorem RM_240 : RM S e c M 240 = S 240 := rfl
theorem RM_9 : RM S e c M 232 9 = S 232 9 := rfl
theorem RM_15 : RM S e c M 232 15 = tkQ (S 240) (S 232 9) e := rfl
theorem RM_17 : RM S e c M 232 17 = rtk (S 240) (S 232 9) e := rfl
theorem RM_18 : RM S e c M 232 18 = rwd (S 240) (S 232 9) e := rfl
theorem RM_19 : RM S e c M 232 19 = rvl (S 240) (S 232 9) e := rfl
end
noncomputable def rnu (T : Int → Int) (n e lo hi : Int) : Int := if rtk T n e = 2 then if lo ≤ rvl T n e ∧ rvl T n e ≤ hi then 1 else 0 else 0
noncomputable def rlo (T : Int → Int) (n e : Int) : Int := if rtk T n e = 1 then if 8 < tkQ T n e - tkB T n e then 0 else 1 else 0
abbrev PM := Int × Int × (Int → Int)
noncomputable def rlM (T : Int → Int) (n e x y : Int) (M : Int → Int) : Int → Int := urb (ur M x (tkQ T n e - tkB T n e)) y (fun k => T (tkB T n e + k) - 97) (tkQ T n e - tkB T n e)
noncomputable def rfd (T : Int → Int) (n e k : Int) (M : Int → Int) : PM :=
  if M 0 = 7 then (0, e, M) else
  if rnu T n (tkQ T n e) 0 3 = 0 then (0, tkQ T n e, M) else
  if rnu T n (tkQ T n (tkQ T n e)) 1 9 = 0 then (0, tkQ T n (tkQ T n e), ur (ur M (1 + M 0) k) (8 + M 0) (rvl T n (tkQ T n e))) else
  if rlo T n (tkQ T n (tkQ T n (tkQ T n e))) = 0 then (0, tkQ T n (tkQ T n (tkQ T n e)), ur (ur (ur M (1 + M 0) k) (8 + M 0) (rvl T n (tkQ T n e))) (15 + M 0) (rvl T n (tkQ T n (tkQ T n e)))) else
  (1, tkQ T n (tkQ T n (tkQ T n e)), ur (rlM T n (tkQ T n (tkQ T n (tkQ T n e))) (22 + M 0) (29 + 8 * M 0) (ur (ur (ur M (1 + M 0) k) (8 + M 0) (rvl T n (tkQ T n e))) (15 + M 0) (rvl T n (tkQ T n (tkQ T n e))))) 0 (M 0 + 1))
noncomputable def rga (T : Int → Int) (n e : Int) (M : Int → Int) : PM :=
  if M 85 = 9 then (0, e, M) else
  if rnu T n (tkQ T n e) 0 (M 0 - 1) = 0 then (0, tkQ T n e, M) else
  if rnu T n (tkQ T n (tkQ T n e)) 0 (M 0 - 1) = 0 ∨ rvl T n (tkQ T n (tkQ T n e)) = rvl T n (tkQ T n e) then (0, tkQ T n (tkQ T n e), ur M (86 + M 85) (rvl T n (tkQ T n e))) else
  if rnu T n (tkQ T n (tkQ T n (tkQ T n e))) 1 30 = 0 then (0, tkQ T n (tkQ T n (tkQ T n e)), ur (ur M (86 + M 85) (rvl T n (tkQ T n e))) (95 + M 85) (rvl T n (tkQ T n (tkQ T n e)))) else
  (1, tkQ T n (tkQ T n (tkQ T n e)), ur (ur (ur (ur M (86 + M 85) (rvl T n (tkQ T n e))) (95 + M 85) (rvl T n (tkQ T n (tkQ T n e)))) (104 + M 85) (rvl T n (tkQ T n (tkQ T n (tkQ T n e))))) 85 (M 85 + 1))
noncomputable def rwo (T : Int → Int) (n e : Int) (M : Int → Int) : PM :=
  if M 113 = 8 then (0, e, M) else
  if rlo T n (tkQ T n e) = 0 then (0, tkQ T n e, M) else
  (1, tkQ T n e, ur (rlM T n (tkQ T n e) (114 + M 113) (122 + 8 * M 113) M) 113 (M 113 + 1))
noncomputable def rdk (T : Int → Int) (n e : Int) (M : Int → Int) : PM :=
  if rnu T n (tkQ T n e) 10 99 = 0 then (0, tkQ T n e, M) else (1, tkQ T n e, ur M 186 (rvl T n (tkQ T n e)))
noncomputable def rcl (T : Int → Int) (n e : Int) (M : Int → Int) : PM :=
  if rtk T n e = 1 then
    if rwd T n e = 123563833652072 then (1, e, urf M (fun kk => if kk = 186 then 60 else 0) 187) else
    if rwd T n e = 1734440037 then rga T n e M else
    if rwd T n e = 2003792484 then rwo T n e M else
    if rwd T n e = 1684107883 then rdk T n e M else
    if rwd T n e = 499968340590 then rfd T n e 0 M else
    if rwd T n e = 448545975417 then rfd T n e 1 M else
    if rwd T n e = 27710310490205285 then rfd T n e 2 M else
    if rwd T n e = 448312010092 then rfd T n e 3 M else (0, e, M)
  else (0, e, M)
noncomputable def RMr (S : rS) (c : Int) (r : PM) : Int × rS := (r.1, RM S r.2.1 c r.2.2)
section
variable {S : rS} {e c : Int} {M : Int → Int}
theorem num_c {lo hi : Int} : w_X11_number (RM S e c M) lo hi = (rnu (S 240) (S 232 9) (tkQ (S 240) (S 232 9) e) lo hi, RM S (tkQ (S 240) (S 232 9) e) c M) := by
  unfold w_X11_number rnu
  rw [RM_stM, RM_240, RM_9, RM_15]
  by_cases h1 : rtk (S 240) (S 232 9) (tkQ (S 240) (S 232 9) e) = 2
  · rw [if_pos h1, if_pos h1]; split <;> rfl
  · rw [if_neg h1, if_neg h1]
theorem rlf_c {f : Int} : w_X11_readsLine_f (RM S e c M) f = if rlo (S 240) (S 232 9) (tkQ (S 240) (S 232 9) e) = 0 then (0, RM S (tkQ (S 240) (S 232 9) e) c M) else (1, RM S (tkQ (S 240) (S 232 9) e) c (rlM (S 240) (S 232 9) (tkQ (S 240) (S 232 9) e) (22 + f) (29 + 8 * f) M)) := by
  unfold w_X11_readsLine_f rlo rlM
  rw [RM_stM, RM_240, RM_9, RM_15, RM_up, RM_flb]
  by_cases h1 : rtk (S 240) (S 232 9) (tkQ (S 240) (S 232 9) e) = 1
  · rw [if_pos h1, if_pos h1]
    split
    · rw [if_pos rfl]
    · rw [if_neg (by decide)]
  · rw [if_neg h1, if_neg h1, if_pos rfl]
theorem rlw_c {w : Int} : w_X11_readsLine_w (RM S e c M) w = if rlo (S 240) (S 232 9) (tkQ (S 240) (S 232 9) e) = 0 then (0, RM S (tkQ (S 240) (S 232 9) e) c M) else (1, RM S (tkQ (S 240) (S 232 9) e) c (rlM (S 240) (S 232 9) (tkQ (S 240) (S 232 9) e) (114 + w) (122 + 8 * w) M)) := by
  unfold w_X11_readsLine_w rlo rlM
  rw [RM_stM, RM_240, RM_9, RM_15, RM_up, RM_flb]
  by_cases h1 : rtk (S 240) (S 232 9) (tkQ (S 240) (S 232 9) e) = 1
  · rw [if_pos h1, if_pos h1]
    split
    · rw [if_pos rfl]
    · rw [if_neg (by decide)]
  · rw [if_neg h1, if_neg h1, if_pos rfl]
theorem rfd_c {k : Int} : w_X11_readsField (RM S e c M) k = RMr S c (rfd (S 240) (S 232 9) e k M) := by
  unfold w_X11_readsField rfd RMr
  simp only [RM_234, num_c, RM_19, RM_up, rlf_c]
  by_cases h0 : M 0 = 7
  · simp only [if_pos h0]
  simp only [if_neg h0]
  by_cases h1 : rnu (S 240) (S 232 9) (tkQ (S 240) (S 232 9) e) 0 3 = 0
  · simp only [if_pos h1]
  simp only [if_neg h1]
  by_cases h2 : rnu (S 240) (S 232 9) (tkQ (S 240) (S 232 9) (tkQ (S 240) (S 232 9) e)) 1 9 = 0
  · simp only [if_pos h2]
  simp only [if_neg h2]
  by_cases h3 : rlo (S 240) (S 232 9) (tkQ (S 240) (S 232 9) (tkQ (S 240) (S 232 9) (tkQ (S 240) (S 232 9) e))) = 0
  · simp only [if_pos h3, if_true]
  simp only [if_neg h3, RM_up]
  rw [if_neg (by decide)]
theorem rga_c : w_X11_readsGate (RM S e c M) = RMr S c (rga (S 240) (S 232 9) e M) := by
  unfold w_X11_readsGate rga RMr
  simp only [RM_234, num_c, RM_19, RM_up]
  by_cases h0 : M 85 = 9
  · simp only [if_pos h0]
  simp only [if_neg h0]
  by_cases h1 : rnu (S 240) (S 232 9) (tkQ (S 240) (S 232 9) e) 0 (M 0 - 1) = 0
  · simp only [if_pos h1]
  simp only [if_neg h1]
  by_cases h2 : rnu (S 240) (S 232 9) (tkQ (S 240) (S 232 9) (tkQ (S 240) (S 232 9) e)) 0 (M 0 - 1) = 0
  · have h23 : rnu (S 240) (S 232 9) (tkQ (S 240) (S 232 9) (tkQ (S 240) (S 232 9) e)) 0 (M 0 - 1) = 0 ∨ rvl (S 240) (S 232 9) (tkQ (S 240) (S 232 9) (tkQ (S 240) (S 232 9) e)) = rvl (S 240) (S 232 9) (tkQ (S 240) (S 232 9) e) := Or.inl h2
    simp only [if_pos h2, if_pos h23]
  simp only [if_neg h2]
  by_cases h3 : rvl (S 240) (S 232 9) (tkQ (S 240) (S 232 9) (tkQ (S 240) (S 232 9) e)) = rvl (S 240) (S 232 9) (tkQ (S 240) (S 232 9) e)
  · have h23 : rnu (S 240) (S 232 9) (tkQ (S 240) (S 232 9) (tkQ (S 240) (S 232 9) e)) 0 (M 0 - 1) = 0 ∨ rvl (S 240) (S 232 9) (tkQ (S 240) (S 232 9) (tkQ (S 240) (S 232 9) e)) = rvl (S 240) (S 232 9) (tkQ (S 240) (S 232 9) e) := Or.inr h3
    simp only [if_pos h3, if_pos h23]
  have h23 : ¬ (rnu (S 240) (S 232 9) (tkQ (S 240) (S 232 9) (tkQ (S 240) (S 232 9) e)) 0 (M 0 - 1) = 0 ∨ rvl (S 240) (S 232 9) (tkQ (S 240) (S 232 9) (tkQ (S 240) (S 232 9) e)) = rvl (S 240) (S 232 9) (tkQ (S 240) (S 232 9) e)) := fun z => Or.elim z h2 h3
  simp only [if_neg h3, if_neg h23]
  by_cases h4 : rnu (S 240) (S 232 9) (tkQ (S 240) (S 232 9) (tkQ (S 240) (S 232 9) (tkQ (S 240) (S 232 9) e))) 1 30 = 0
  · simp only [if_pos h4]
  simp only [if_neg h4]
theorem rwo_c : w_X11_readsWord (RM S e c M) = RMr S c (rwo (S 240) (S 232 9) e M) := by
  unfold w_X11_readsWord rwo RMr
  simp only [RM_234, rlw_c]
  by_cases h0 : M 113 = 8
  · simp only [if_pos h0]
  simp only [if_neg h0]
  by_cases h3 : rlo (S 240) (S 232 9) (tkQ (S 240) (S 232 9) e) = 0
  · simp only [if_pos h3, if_true]
  simp only [if_neg h3, RM_up]
  rw [if_neg (by decide)]
theorem rdk_c : w_X11_readsDark (RM S e c M) = RMr S c (rdk (S 240) (S 232 9) e M) := by
  unfold w_X11_readsDark rdk RMr
  simp only [RM_19, num_c, RM_up]
  by_cases h3 : rnu (S 240) (S 232 9) (tkQ (S 240) (S 232 9) e) 10 99 = 0
  · simp only [if_pos h3]
  simp only [if_neg h3]
theorem anw_c : w_X11_anew (RM S e c M) = RMr S c (1, e, urf M (fun kk => if kk = 186 then 60 else 0) 187) := by
  unfold w_X11_anew RMr
  rw [RM_fl]
theorem RMr_b {r : PM} (h : r.1 = 0 ∨ r.1 = 1) : (if (RMr S c r).1 = 0 then (0, (RMr S c r).2) else (1, (RMr S c r).2)) = RMr S c r := by
  show (if r.1 = 0 then (0, RM S r.2.1 c r.2.2) else (1, RM S r.2.1 c r.2.2)) = (r.1, RM S r.2.1 c r.2.2)
  rcases h with h | h
  · rw [if_pos h, h]
  · rw [if_neg (by omega), h]
theorem rfd_01 {T : Int → Int} {n k : Int} : (rfd T n e k M).1 = 0 ∨ (rfd T n e k M).1 = 1 := by
  unfold rfd
  repeat (first | exact Or.inl rfl | exact Or.inr rfl | split)
theorem rcl_c : w_X11_readsClause (RM S e c M) = RMr S c (rcl (S 240) (S 232 9) e M) := by
  unfold w_X11_readsClause rcl
  rw [RM_17, RM_18]
  by_cases h0 : rtk (S 240) (S 232 9) e = 1
  · rw [if_pos h0, if_pos h0]
    by_cases h1 : rwd (S 240) (S 232 9) e = 123563833652072
    · rw [if_pos h1, if_pos h1, anw_c]
    rw [if_neg h1, if_neg h1]
    by_cases h2 : rwd (S 240) (S 232 9) e = 1734440037
    · rw [if_pos h2, if_pos h2, rga_c]
    rw [if_neg h2, if_neg h2]
    by_cases h3 : rwd (S 240) (S 232 9) e = 2003792484
    · rw [if_pos h3, if_pos h3, rwo_c]
    rw [if_neg h3, if_neg h3]
    by_cases h4 : rwd (S 240) (S 232 9) e = 1684107883
    · rw [if_pos h4, if_pos h4, rdk_c]
    rw [if_neg h4, if_neg h4]
    by_cases h5 : rwd (S 240) (S 232 9) e = 499968340590
    · rw [if_pos h5, if_pos h5, rfd_c, RMr_b rfd_01]
    rw [if_neg h5, if_neg h5]
    by_cases h6 : rwd (S 240) (S 232 9) e = 448545975417
    · rw [if_pos h6, if_pos h6, rfd_c, RMr_b rfd_01]
    rw [if_neg h6, if_neg h6]
    by_cases h7 : rwd (S 240) (S 232 9) e = 27710310490205285
    · rw [if_pos h7, if_pos h7, rfd_c, RMr_b rfd_01]
    rw [if_neg h7, if_neg h7]
    by_cases h8 : rwd (S 240) (S 232 9) e = 448312010092
    · rw [if_pos h8, if_pos h8, rfd_c, RMr_b rfd_01]
    rw [if_neg h8, if_neg h8]; rfl
  · rw [if_neg h0, if_neg h0]; rfl
end
/-- a text read by the reference -/
noncomputable def rdl (T : Int → Int) (n : Int) : Nat → Int → Int → (Int → Int) → PM
  | 0, _, c, M => (0, c, M)
  | k + 1, q, c, M => if (rcl T n q M).1 = 0 then (tkB T n (rcl T n q M).2.1, c, (rcl T n q M).2.2) else
    if rtk T n (tkQ T n (rcl T n q M).2.1) = 3 ∧ c + 1 < 20 then rdl T n k (tkQ T n (tkQ T n (rcl T n q M).2.1)) (c + 1) (rcl T n q M).2.2 else
    ((if rtk T n (tkQ T n (rcl T n q M).2.1) = 0 then -1 else tkB T n (tkQ T n (rcl T n q M).2.1)), c + 1, (rcl T n q M).2.2)
theorem rdl_s {T : Int → Int} {n q c ok e1 : Int} {M M1 : Int → Int} {z : PM} (hn : c < 20) (hp : rcl T n q M = (ok, e1, M1)) (h : rdl T n (20 - c).toNat q c M = z) : (if ok = 0 then (tkB T n e1, c, M1) else if rtk T n (tkQ T n e1) = 3 ∧ c + 1 < 20 then rdl T n (20 - (c + 1)).toNat (tkQ T n (tkQ T n e1)) (c + 1) M1 else ((if rtk T n (tkQ T n e1) = 0 then -1 else tkB T n (tkQ T n e1)), c + 1, M1)) = z := by
  rw [show (20 - c).toNat = (20 - (c + 1)).toNat + 1 by omega] at h
  unfold rdl at h
  rw [hp] at h
  exact h
theorem R5_0 {S : rS} : mx_up (mx_up (mx_cp S 233 0 234 0 187) 232 15 0) 232 20 0 = R5 S 0 (S 232 16) (S 232 17) (S 232 18) (S 232 19) 0 (mx_cp S 233 0 234 0 187 234) := by
  funext a j
  rw [up_ap, up_ap, R5_ap]
  by_cases h0 : a = 234
  · rw [if_neg (by omega), if_neg (by omega), if_pos h0, h0]
  by_cases h1 : a = 232 ∧ j = 15
  · repeat (first | rw [if_neg (by omega)] | rw [if_pos (by omega)])
  by_cases h6 : a = 232 ∧ j = 20
  · repeat (first | rw [if_neg (by omega)] | rw [if_pos (by omega)])
  rw [if_neg h6, if_neg h1, if_neg h0, if_neg h1, cp_o (by omega)]
  by_cases h2 : a = 232 ∧ j = 16
  · rw [if_pos h2, h2.1, h2.2]
  rw [if_neg h2]
  by_cases h3 : a = 232 ∧ j = 17
  · rw [if_pos h3, h3.1, h3.2]
  rw [if_neg h3]
  by_cases h4 : a = 232 ∧ j = 18
  · rw [if_pos h4, h4.1, h4.2]
  rw [if_neg h4]
  by_cases h5 : a = 232 ∧ j = 19
  · rw [if_pos h5, h5.1, h5.2]
  rw [if_neg h5, if_neg h6]
theorem c_X11_reads {S : rS} (hB : Bd S) : CS 6 114 [.inr (.inr 232)] S (fun r' S' => ∃ (ans c : Int) (M : Int → Int) (q b t wd v : Int), Bd S' ∧ S' = R5 S q b t wd v c M ∧ r' = some (.inl ans) ∧ (-1 ≤ ans ∧ ans ≤ 200) ∧ rdl (S 240) (S 232 9) 20 0 0 (mx_cp S 233 0 234 0 187 234) = (ans, c, M)) := by
  refine RS.beg (ls := [some (.inr (.inr 232)), none]) rfl rfl rfl rfl rfl ?_
  refine r_aload (pc' := 1) rfl rfl rfl ?_
  refine r_getr (pc' := 4) (v := 233) rfl rfl rfl rfl rfl ?_
  refine r_const (pc' := 5) rfl rfl ?_
  refine r_aload (pc' := 6) rfl rfl rfl ?_
  refine r_getr (pc' := 9) (v := 234) rfl rfl rfl rfl rfl ?_
  refine r_const (pc' := 10) rfl rfl ?_
  refine r_const (pc' := 13) rfl rfl ?_
  refine q_callE (pc' := 16) (w := none) (S2 := mx_cp S 233 0 234 0 187) (st' := []) rfl rfl rfl (c_X11_copies_pr  (S := S) hB ) (by decide) rfl rfl (Nat.le_of_ble_eq_true rfl) (fun q => absurd rfl q) rfl rfl ?_
  have hB1 : Bd (mx_cp S 233 0 234 0 187) := Bd_cp hB (fun k _ _ => ⟨Int.le_refl _, Int.le_refl _⟩)
  refine r_aload (pc' := 17) rfl rfl rfl ?_
  refine r_const (pc' := 18) rfl rfl ?_
  refine r_put (pc' := 21) rfl rfl rfl rfl ?_
  refine r_aload (pc' := 22) rfl rfl rfl ?_
  refine r_const (pc' := 23) rfl rfl ?_
  refine r_put (pc' := 26) rfl rfl rfl rfl ?_
  refine r_const (pc' := 27) rfl rfl ?_
  refine r_istore (pc' := 28) (ls' := [some (.inr (.inr 232)), some (.inl 1)]) rfl rfl rfl rfl ?_
  refine r_mem (show mx_up (mx_up (mx_cp S 233 0 234 0 187) 232 15 0) 232 20 0 = R5 S (0 : Int) (S 232 16) (S 232 17) (S 232 18) (S 232 19) (0 : Int) (mx_cp S 233 0 234 0 187 234) from by exact R5_0) ?_
  refine r_while (α := Int × Int × Int × Int × Int × Int × Int × (Int → Int)) (fun z' => [some (.inr (.inr 232)), some (.inl z'.1)]) (fun z' => R5 S z'.2.1 z'.2.2.1 z'.2.2.2.1 z'.2.2.2.2.1 z'.2.2.2.2.2.1 z'.2.2.2.2.2.2.1 z'.2.2.2.2.2.2.2) (fun z' => (((z'.1 = 0 ∨ z'.1 = 1) ∧ 0 ≤ z'.2.2.2.2.2.2.1) ∧ z'.2.2.2.2.2.2.1 ≤ 20 - z'.1) ∧ (0 ≤ z'.2.2.2.1 ∧ z'.2.2.2.1 ≤ 4) ∧ (z'.1 = 1 → rdl (S 240) (S 232 9) (20 - z'.2.2.2.2.2.2.1).toNat z'.2.1 z'.2.2.2.2.2.2.1 z'.2.2.2.2.2.2.2 = rdl (S 240) (S 232 9) 20 0 0 (mx_cp S 233 0 234 0 187 234)) ∧ (z'.1 = 0 → ((if z'.2.2.2.1 = 0 then -1 else z'.2.2.1), z'.2.2.2.2.2.2.1, z'.2.2.2.2.2.2.2) = rdl (S 240) (S 232 9) 20 0 0 (mx_cp S 233 0 234 0 187 234)) ∧ (Bd (R5 S z'.2.1 z'.2.2.1 z'.2.2.2.1 z'.2.2.2.2.1 z'.2.2.2.2.2.1 z'.2.2.2.2.2.2.1 z'.2.2.2.2.2.2.2))) (fun z' => (40 - 2 * z'.2.2.2.2.2.2.1 + z'.1).toNat) ?_ (1, (0 : Int), (S 232 16), (S 232 17), (S 232 18), (S 232 19), (0 : Int), (mx_cp S 233 0 234 0 187 234)) (show ((((1 : Int) = 0 ∨ (1 : Int) = 1) ∧ 0 ≤ (0 : Int)) ∧ (0 : Int) ≤ 20 - (1 : Int)) ∧ (0 ≤ (S 232 17) ∧ (S 232 17) ≤ 4) ∧ ((1 : Int) = 1 → rdl (S 240) (S 232 9) (20 - (0 : Int)).toNat (0 : Int) (0 : Int) (mx_cp S 233 0 234 0 187 234) = rdl (S 240) (S 232 9) 20 0 0 (mx_cp S 233 0 234 0 187 234)) ∧ ((1 : Int) = 0 → ((if (S 232 17) = 0 then -1 else (S 232 16)), (0 : Int), (mx_cp S 233 0 234 0 187 234)) = rdl (S 240) (S 232 9) 20 0 0 (mx_cp S 233 0 234 0 187 234)) ∧ (Bd (R5 S (0 : Int) (S 232 16) (S 232 17) (S 232 18) (S 232 19) (0 : Int) (mx_cp S 233 0 234 0 187 234))) from by exact ⟨by omega, by have q := hB 232 17; exact q, fun _ => rfl, fun z => absurd z (by decide), by have q : Bd (mx_up (mx_up (mx_cp S 233 0 234 0 187) 232 15 0) 232 20 0) := (Bd_up (Bd_up hB1 (show (0 : Int) ≤ 0 from by omega) (show 0 ≤ (200 : Int) from by omega)) (show (0 : Int) ≤ 0 from by omega) (show 0 ≤ (20 : Int) from by omega)); rw [R5_0] at q; exact q⟩)
  rintro ⟨more, q, b, t, wd, v, c, M⟩ hI' ih28
  have hI' : (((more = 0 ∨ more = 1) ∧ 0 ≤ c) ∧ c ≤ 20 - more) ∧ (0 ≤ t ∧ t ≤ 4) ∧ (more = 1 → rdl (S 240) (S 232 9) (20 - c).toNat q c M = rdl (S 240) (S 232 9) 20 0 0 (mx_cp S 233 0 234 0 187 234)) ∧ (more = 0 → ((if t = 0 then -1 else b), c, M) = rdl (S 240) (S 232 9) 20 0 0 (mx_cp S 233 0 234 0 187 234)) ∧ (Bd (R5 S q b t wd v c M)) := hI'
  obtain ⟨hm, ht, h1, h0, hBR⟩ := hI'
  show RS _ _ _ _ [some (.inr (.inr 232)), some (.inl more)] [] (R5 S q b t wd v c M)
  have b2 : 0 ≤ S 232 9 ∧ S 232 9 ≤ 200 := hB 232 9
  have hB3 : Bd (R5 S q b t wd v c M) := by exact hBR
  refine r_iload (pc' := 29) rfl rfl rfl ?_
  by_cases h4 : more = 0
  · refine r_if_eq1 (pc' := 88) rfl rfl (by omega) (by omega) ?_
    refine r_aload (pc' := 89) rfl rfl rfl ?_
    refine r_getv (pc' := 92) (v := t) rfl rfl (Or.inl rfl) rfl rfl ?_
    by_cases h5 : t = 0
    · refine r_if_ne0 (pc' := 95) rfl rfl (by omega) (by omega) ?_
      refine r_const (pc' := 96) rfl rfl ?_
      refine r_goto (pc' := 103) rfl rfl ?_
      refine q_iret rfl rfl rfl ?_
      have hE := h0 (by omega)
      rw [if_pos h5] at hE
      have zb : 0 ≤ b ∧ b ≤ 200 := hBR 232 16
      exact ⟨_, c, M, q, b, t, wd, v, hBR, rfl, rfl, by omega, hE.symm⟩
    · refine r_if_ne1 (pc' := 99) rfl rfl (by omega) (by omega) ?_
      refine r_aload (pc' := 100) rfl rfl rfl ?_
      refine r_getv (pc' := 103) (v := b) rfl rfl (Or.inl rfl) rfl rfl ?_
      refine q_iret rfl rfl rfl ?_
      have hE := h0 (by omega)
      rw [if_neg h5] at hE
      have zb : 0 ≤ b ∧ b ≤ 200 := hBR 232 16
      exact ⟨_, c, M, q, b, t, wd, v, hBR, rfl, rfl, by omega, hE.symm⟩
  · refine r_if_eq0 (pc' := 32) rfl rfl (by omega) (by omega) ?_
    refine r_aload (pc' := 33) rfl rfl rfl ?_
    refine q_callE (pc' := 36) (w := none) (S2 := stM (R5 S q b t wd v c M)) (st' := []) rfl rfl rfl (c_X11_step  (S := (R5 S q b t wd v c M)) hB3 ) (by decide) rfl rfl (Nat.le_of_ble_eq_true rfl) (fun _ _ => ⟨_, _, rfl, rfl⟩) rfl rfl ?_
    have hB6 : Bd (stM (R5 S q b t wd v c M)) := Bd_stM hB3
    have eMe0 : (stM (R5 S q b t wd v c M)) = RM S q c M := by exact R5_stM
    have hBe0 : Bd (RM S q c M) := by have q : Bd ((stM (R5 S q b t wd v c M))) := hB6; rw [eMe0] at q; exact q
    rw [eMe0]
    refine r_aload (pc' := 37) rfl rfl rfl ?_
    refine q_call (pc' := 40) (P := fun r' S' => r' = some (.inl ((w_X11_readsClause (RM S q c M)).1)) ∧ S' = (w_X11_readsClause (RM S q c M)).2 ∧ Bd S' ∧ ((w_X11_readsClause (RM S q c M)).1 = 0 ∨ (w_X11_readsClause (RM S q c M)).1 = 1) ∧ (∀ a j : Int, ¬ (a = 232 ∧ 15 ≤ j ∧ j ≤ 19) → ¬ a = 234 → S' a j = (RM S q c M) a j)) rfl rfl rfl (c_X11_readsClause  (S := (RM S q c M)) hBe0 ) (by decide) rfl rfl (Nat.le_of_ble_eq_true rfl) (fun _ _ => ⟨_, _, rfl, rfl⟩) rfl ?_
    rintro _ _ ⟨rfl, rfl, hB7, hr7, he7⟩ hz7
    show RS _ _ _ _ _ [.inl ((w_X11_readsClause (RM S q c M)).1)] (w_X11_readsClause (RM S q c M)).2
    obtain ⟨ok, e1, M1, hp⟩ : ∃ (ok e1 : Int) (M1 : Int → Int), rcl (S 240) (S 232 9) q M = (ok, e1, M1) := ⟨_, _, _, rfl⟩
    have hcl : w_X11_readsClause (RM S q c M) = (ok, RM S e1 c M1) := by rw [rcl_c, hp]; rfl
    have hB1 : Bd (RM S e1 c M1) := by have q := hB7; rw [hcl] at q; exact q
    have hok : ok = 0 ∨ ok = 1 := by have q := hr7; rw [hcl] at q; exact q
    have hP := rdl_s (by omega) hp (h1 (by omega))
    have kr := rtk_r (T := S 240) (n := S 232 9) (e := tkQ (S 240) (S 232 9) e1)
    rw [hcl]
    show RS _ _ _ _ [some (.inr (.inr 232)), some (.inl more)] [.inl ok] (RM S e1 c M1)
    by_cases h8 : ok = 0
    · refine r_if_ne0 (pc' := 43) rfl rfl (by omega) (by omega) ?_
      refine r_aload (pc' := 44) rfl rfl rfl ?_
      refine r_getv (pc' := 47) (v := (tkB (S 240) (S 232 9) e1)) rfl rfl (Or.inl rfl) rfl rfl ?_
      refine q_iret rfl rfl rfl ?_
      rw [if_pos h8] at hP
      have zb : 0 ≤ tkB (S 240) (S 232 9) e1 ∧ tkB (S 240) (S 232 9) e1 ≤ 200 := hB1 232 16
      exact ⟨_, c, M1, _, _, _, _, _, hB1, rfl, rfl, by omega, hP.symm⟩
    · refine r_if_ne1 (pc' := 48) rfl rfl (by omega) (by omega) ?_
      refine r_aload (pc' := 49) rfl rfl rfl ?_
      refine r_dupr (pc' := 50) rfl rfl ?_
      refine r_getv (pc' := 53) (v := c) rfl rfl (Or.inl rfl) rfl rfl ?_
      refine r_const (pc' := 54) rfl rfl ?_
      refine r_iadd (pc' := 55) rfl rfl ?_
      refine r_put (pc' := 58) rfl rfl rfl rfl ?_
      refine r_aload (pc' := 59) rfl rfl rfl ?_
      refine q_callE (pc' := 62) (w := none) (S2 := stM (mx_up (RM S e1 c M1) 232 20 (c + 1))) (st' := []) rfl rfl rfl (c_X11_step  (S := mx_up (RM S e1 c M1) 232 20 (c + 1)) (Bd_up hB1 (show (0 : Int) ≤ (c + 1) from by omega) (show (c + 1) ≤ (20 : Int) from by omega)) ) (by decide) rfl rfl (Nat.le_of_ble_eq_true rfl) (fun _ _ => ⟨_, _, rfl, rfl⟩) rfl rfl ?_
      have hB9 : Bd (stM (mx_up (RM S e1 c M1) 232 20 (c + 1))) := Bd_stM (Bd_up hB1 (show (0 : Int) ≤ (c + 1) from by omega) (show (c + 1) ≤ (20 : Int) from by omega))
      have eMe2 : (stM (mx_up (RM S e1 c M1) 232 20 (c + 1))) = RM S (tkQ (S 240) (S 232 9) e1) (c + 1) M1 := by rw [RM_c, RM_stM]
      have hBe2 : Bd (RM S (tkQ (S 240) (S 232 9) e1) (c + 1) M1) := by have q : Bd ((stM (mx_up (RM S e1 c M1) 232 20 (c + 1)))) := hB9; rw [eMe2] at q; exact q
      rw [eMe2]
      refine r_aload (pc' := 63) rfl rfl rfl ?_
      refine r_getv (pc' := 66) (v := (rtk (S 240) (S 232 9) (tkQ (S 240) (S 232 9) e1))) rfl rfl (Or.inl rfl) rfl rfl ?_
      refine r_const (pc' := 67) rfl rfl ?_
      by_cases h10 : (rtk (S 240) (S 232 9) (tkQ (S 240) (S 232 9) e1)) = 3
      · refine r_icmp_ne0 (pc' := 70) rfl rfl (by omega) (by omega) ?_
        refine r_aload (pc' := 71) rfl rfl rfl ?_
        refine r_getv (pc' := 74) (v := (c + 1)) rfl rfl (Or.inl rfl) rfl rfl ?_
        refine r_const (pc' := 76) rfl rfl ?_
        by_cases h11 : (c + 1) < 20
        · refine r_icmp_ge0 (pc' := 79) rfl rfl (by omega) (by omega) ?_
          refine r_const (pc' := 80) rfl rfl ?_
          refine r_goto (pc' := 84) rfl rfl ?_
          refine r_istore (pc' := 85) (ls' := [some (.inr (.inr 232)), some (.inl 1)]) rfl rfl rfl rfl ?_
          refine r_goto (pc' := 28) rfl rfl ?_
          refine r_mem (show (RM S (tkQ (S 240) (S 232 9) e1) (c + 1) M1) = R5 S (tkQ (S 240) (S 232 9) (tkQ (S 240) (S 232 9) e1)) (tkB (S 240) (S 232 9) (tkQ (S 240) (S 232 9) e1)) (rtk (S 240) (S 232 9) (tkQ (S 240) (S 232 9) e1)) (rwd (S 240) (S 232 9) (tkQ (S 240) (S 232 9) e1)) (rvl (S 240) (S 232 9) (tkQ (S 240) (S 232 9) e1)) (c + 1) M1 from by rfl) ?_
          exact ih28 (1, (tkQ (S 240) (S 232 9) (tkQ (S 240) (S 232 9) e1)), (tkB (S 240) (S 232 9) (tkQ (S 240) (S 232 9) e1)), (rtk (S 240) (S 232 9) (tkQ (S 240) (S 232 9) e1)), (rwd (S 240) (S 232 9) (tkQ (S 240) (S 232 9) e1)), (rvl (S 240) (S 232 9) (tkQ (S 240) (S 232 9) e1)), (c + 1), M1) (show ((((1 : Int) = 0 ∨ (1 : Int) = 1) ∧ 0 ≤ (c + 1)) ∧ (c + 1) ≤ 20 - (1 : Int)) ∧ (0 ≤ (rtk (S 240) (S 232 9) (tkQ (S 240) (S 232 9) e1)) ∧ (rtk (S 240) (S 232 9) (tkQ (S 240) (S 232 9) e1)) ≤ 4) ∧ ((1 : Int) = 1 → rdl (S 240) (S 232 9) (20 - (c + 1)).toNat (tkQ (S 240) (S 232 9) (tkQ (S 240) (S 232 9) e1)) (c + 1) M1 = rdl (S 240) (S 232 9) 20 0 0 (mx_cp S 233 0 234 0 187 234)) ∧ ((1 : Int) = 0 → ((if (rtk (S 240) (S 232 9) (tkQ (S 240) (S 232 9) e1)) = 0 then -1 else (tkB (S 240) (S 232 9) (tkQ (S 240) (S 232 9) e1))), (c + 1), M1) = rdl (S 240) (S 232 9) 20 0 0 (mx_cp S 233 0 234 0 187 234)) ∧ (Bd (R5 S (tkQ (S 240) (S 232 9) (tkQ (S 240) (S 232 9) e1)) (tkB (S 240) (S 232 9) (tkQ (S 240) (S 232 9) e1)) (rtk (S 240) (S 232 9) (tkQ (S 240) (S 232 9) e1)) (rwd (S 240) (S 232 9) (tkQ (S 240) (S 232 9) e1)) (rvl (S 240) (S 232 9) (tkQ (S 240) (S 232 9) e1)) (c + 1) M1)) from by rw [if_neg h8, if_pos ⟨h10, by omega⟩] at hP; exact ⟨by omega, rtk_r, fun _ => hP, fun z => absurd z (by decide), hBe2⟩) (show (40 - 2 * (c + 1) + (1 : Int)).toNat < (40 - 2 * c + more).toNat from by omega)
        · refine r_icmp_ge1 (pc' := 83) rfl rfl (by omega) (by omega) ?_
          refine r_const (pc' := 84) rfl rfl ?_
          refine r_istore (pc' := 85) (ls' := [some (.inr (.inr 232)), some (.inl 0)]) rfl rfl rfl rfl ?_
          refine r_goto (pc' := 28) rfl rfl ?_
          refine r_mem (show (RM S (tkQ (S 240) (S 232 9) e1) (c + 1) M1) = R5 S (tkQ (S 240) (S 232 9) (tkQ (S 240) (S 232 9) e1)) (tkB (S 240) (S 232 9) (tkQ (S 240) (S 232 9) e1)) (rtk (S 240) (S 232 9) (tkQ (S 240) (S 232 9) e1)) (rwd (S 240) (S 232 9) (tkQ (S 240) (S 232 9) e1)) (rvl (S 240) (S 232 9) (tkQ (S 240) (S 232 9) e1)) (c + 1) M1 from by rfl) ?_
          exact ih28 (0, (tkQ (S 240) (S 232 9) (tkQ (S 240) (S 232 9) e1)), (tkB (S 240) (S 232 9) (tkQ (S 240) (S 232 9) e1)), (rtk (S 240) (S 232 9) (tkQ (S 240) (S 232 9) e1)), (rwd (S 240) (S 232 9) (tkQ (S 240) (S 232 9) e1)), (rvl (S 240) (S 232 9) (tkQ (S 240) (S 232 9) e1)), (c + 1), M1) (show ((((0 : Int) = 0 ∨ (0 : Int) = 1) ∧ 0 ≤ (c + 1)) ∧ (c + 1) ≤ 20 - (0 : Int)) ∧ (0 ≤ (rtk (S 240) (S 232 9) (tkQ (S 240) (S 232 9) e1)) ∧ (rtk (S 240) (S 232 9) (tkQ (S 240) (S 232 9) e1)) ≤ 4) ∧ ((0 : Int) = 1 → rdl (S 240) (S 232 9) (20 - (c + 1)).toNat (tkQ (S 240) (S 232 9) (tkQ (S 240) (S 232 9) e1)) (c + 1) M1 = rdl (S 240) (S 232 9) 20 0 0 (mx_cp S 233 0 234 0 187 234)) ∧ ((0 : Int) = 0 → ((if (rtk (S 240) (S 232 9) (tkQ (S 240) (S 232 9) e1)) = 0 then -1 else (tkB (S 240) (S 232 9) (tkQ (S 240) (S 232 9) e1))), (c + 1), M1) = rdl (S 240) (S 232 9) 20 0 0 (mx_cp S 233 0 234 0 187 234)) ∧ (Bd (R5 S (tkQ (S 240) (S 232 9) (tkQ (S 240) (S 232 9) e1)) (tkB (S 240) (S 232 9) (tkQ (S 240) (S 232 9) e1)) (rtk (S 240) (S 232 9) (tkQ (S 240) (S 232 9) e1)) (rwd (S 240) (S 232 9) (tkQ (S 240) (S 232 9) e1)) (rvl (S 240) (S 232 9) (tkQ (S 240) (S 232 9) e1)) (c + 1) M1)) from by rw [if_neg h8, if_neg (fun z => absurd z.2 (by omega))] at hP; exact ⟨by omega, rtk_r, fun z => absurd z (by decide), fun _ => hP, hBe2⟩) (show (40 - 2 * (c + 1) + (0 : Int)).toNat < (40 - 2 * c + more).toNat from by omega)
      · refine r_icmp_ne1 (pc' := 83) rfl rfl (by omega) (by omega) ?_
        refine r_const (pc' := 84) rfl rfl ?_
        refine r_istore (pc' := 85) (ls' := [some (.inr (.inr 232)), some (.inl 0)]) rfl rfl rfl rfl ?_
        refine r_goto (pc' := 28) rfl rfl ?_
        refine r_mem (show (RM S (tkQ (S 240) (S 232 9) e1) (c + 1) M1) = R5 S (tkQ (S 240) (S 232 9) (tkQ (S 240) (S 232 9) e1)) (tkB (S 240) (S 232 9) (tkQ (S 240) (S 232 9) e1)) (rtk (S 240) (S 232 9) (tkQ (S 240) (S 232 9) e1)) (rwd (S 240) (S 232 9) (tkQ (S 240) (S 232 9) e1)) (rvl (S 240) (S 232 9) (tkQ (S 240) (S 232 9) e1)) (c + 1) M1 from by rfl) ?_
        exact ih28 (0, (tkQ (S 240) (S 232 9) (tkQ (S 240) (S 232 9) e1)), (tkB (S 240) (S 232 9) (tkQ (S 240) (S 232 9) e1)), (rtk (S 240) (S 232 9) (tkQ (S 240) (S 232 9) e1)), (rwd (S 240) (S 232 9) (tkQ (S 240) (S 232 9) e1)), (rvl (S 240) (S 232 9) (tkQ (S 240) (S 232 9) e1)), (c + 1), M1) (show ((((0 : Int) = 0 ∨ (0 : Int) = 1) ∧ 0 ≤ (c + 1)) ∧ (c + 1) ≤ 20 - (0 : Int)) ∧ (0 ≤ (rtk (S 240) (S 232 9) (tkQ (S 240) (S 232 9) e1)) ∧ (rtk (S 240) (S 232 9) (tkQ (S 240) (S 232 9) e1)) ≤ 4) ∧ ((0 : Int) = 1 → rdl (S 240) (S 232 9) (20 - (c + 1)).toNat (tkQ (S 240) (S 232 9) (tkQ (S 240) (S 232 9) e1)) (c + 1) M1 = rdl (S 240) (S 232 9) 20 0 0 (mx_cp S 233 0 234 0 187 234)) ∧ ((0 : Int) = 0 → ((if (rtk (S 240) (S 232 9) (tkQ (S 240) (S 232 9) e1)) = 0 then -1 else (tkB (S 240) (S 232 9) (tkQ (S 240) (S 232 9) e1))), (c + 1), M1) = rdl (S 240) (S 232 9) 20 0 0 (mx_cp S 233 0 234 0 187 234)) ∧ (Bd (R5 S (tkQ (S 240) (S 232 9) (tkQ (S 240) (S 232 9) e1)) (tkB (S 240) (S 232 9) (tkQ (S 240) (S 232 9) e1)) (rtk (S 240) (S 232 9) (tkQ (S 240) (S 232 9) e1)) (rwd (S 240) (S 232 9) (tkQ (S 240) (S 232 9) e1)) (rvl (S 240) (S 232 9) (tkQ (S 240) (S 232 9) e1)) (c + 1) M1)) from by rw [if_neg h8, if_neg (fun z => h10 z.1)] at hP; exact ⟨by omega, rtk_r, fun z => absurd z (by decide), fun _ => hP, hBe2⟩) (show (40 - 2 * (c + 1) + (0 : Int)).toNat < (40 - 2 * c + more).toNat from by omega)
theorem c_X11_fault {S : rS} (hB : Bd S) : CS 7 77 [.inr (.inr 232)] S (fun r' S' => ∃ (ans c : Int) (M : Int → Int) (q b t wd v : Int), Bd S' ∧ S' = R5 S q b t wd v c M ∧ r' = some (.inl ans) ∧ (-1 ≤ ans ∧ ans ≤ 200) ∧ rdl (S 240) (S 232 9) 20 0 0 (mx_cp S 233 0 234 0 187 234) = (ans, c, M)) := by
  refine RS.beg (ls := [some (.inr (.inr 232))]) rfl rfl rfl rfl rfl ?_
  refine r_aload (pc' := 1) rfl rfl rfl ?_
  refine q_call (pc' := 4) (P := fun r' S' => ∃ (ans c : Int) (M : Int → Int) (q b t wd v : Int), Bd S' ∧ S' = R5 S q b t wd v c M ∧ r' = some (.inl ans) ∧ (-1 ≤ ans ∧ ans ≤ 200) ∧ rdl (S 240) (S 232 9) 20 0 0 (mx_cp S 233 0 234 0 187 234) = (ans, c, M)) rfl rfl rfl (c_X11_reads  (S := S) hB ) (by decide) rfl rfl (Nat.le_of_ble_eq_true rfl) (fun _ _ => ⟨_, _, rfl, rfl⟩) rfl ?_
  intro r1 T1 hq1 hz1
  obtain ⟨ans1, c1, M1, q1, b1, t1, wd1, v1, hB1, rfl, rfl, hrg1, hpf1⟩ := hq1
  show RS _ _ _ _ _ [.inl ans1] _
  refine q_iret rfl rfl rfl ?_
  exact ⟨_, c1, M1, q1, b1, t1, wd1, v1, hB1, rfl, rfl, hrg1, hpf1⟩
theorem c_X11_parish {S : rS} (hB : Bd S) : CS 7 109 [.inr (.inr 232)] S (fun r' S' => ∃ (ans c : Int) (M : Int → Int) (q b t wd v : Int), rdl (S 240) (S 232 9) 20 0 0 (mx_cp S 233 0 234 0 187 234) = (ans, c, M) ∧ Bd S' ∧ ((ans ≠ -1 ∧ r' = some (.inl (-4)) ∧ S' = R5 S q b t wd v c M) ∨ (ans = -1 ∧ r' = some (.inl c) ∧ S' = begS (mx_up (mx_cp (R5 S q b t wd v c M) 234 0 233 0 187) 232 9 0)))) := by
  refine RS.beg (ls := [some (.inr (.inr 232))]) rfl rfl rfl rfl rfl ?_
  refine r_aload (pc' := 1) rfl rfl rfl ?_
  refine q_call (pc' := 4) (P := fun r' S' => ∃ (ans c : Int) (M : Int → Int) (q b t wd v : Int), Bd S' ∧ S' = R5 S q b t wd v c M ∧ r' = some (.inl ans) ∧ (-1 ≤ ans ∧ ans ≤ 200) ∧ rdl (S 240) (S 232 9) 20 0 0 (mx_cp S 233 0 234 0 187 234) = (ans, c, M)) rfl rfl rfl (c_X11_reads  (S := S) hB ) (by decide) rfl rfl (Nat.le_of_ble_eq_true rfl) (fun _ _ => ⟨_, _, rfl, rfl⟩) rfl ?_
  intro r1 T1 hq1 hz1
  obtain ⟨ans1, c1, M1, q1, b1, t1, wd1, v1, hB1, rfl, rfl, hrg1, hpf1⟩ := hq1
  show RS _ _ _ _ _ [.inl ans1] _
  refine r_const (pc' := 5) rfl rfl ?_
  by_cases h2 : ans1 = (-1)
  · refine r_icmp_eq1 (pc' := 11) rfl rfl (by omega) (by omega) ?_
    refine r_aload (pc' := 12) rfl rfl rfl ?_
    refine r_getr (pc' := 15) (v := 234) rfl rfl rfl rfl rfl ?_
    refine r_const (pc' := 16) rfl rfl ?_
    refine r_aload (pc' := 17) rfl rfl rfl ?_
    refine r_getr (pc' := 20) (v := 233) rfl rfl rfl rfl rfl ?_
    refine r_const (pc' := 21) rfl rfl ?_
    refine r_const (pc' := 24) rfl rfl ?_
    refine q_callE (pc' := 27) (w := none) (S2 := mx_cp (R5 S q1 b1 t1 wd1 v1 c1 M1) 234 0 233 0 187) (st' := []) rfl rfl rfl (c_X11_copies_rp  (S := (R5 S q1 b1 t1 wd1 v1 c1 M1)) hB1 ) (by decide) rfl rfl (Nat.le_of_ble_eq_true rfl) (fun q => absurd rfl q) rfl rfl ?_
    have hB3 : Bd (mx_cp (R5 S q1 b1 t1 wd1 v1 c1 M1) 234 0 233 0 187) := Bd_cp hB1 (fun k _ _ => ⟨Int.le_refl _, Int.le_refl _⟩)
    refine r_aload (pc' := 28) rfl rfl rfl ?_
    refine r_const (pc' := 29) rfl rfl ?_
    refine r_put (pc' := 32) rfl rfl rfl rfl ?_
    refine r_aload (pc' := 33) rfl rfl rfl ?_
    refine q_callE (pc' := 36) (w := none) (S2 := begS (mx_up (mx_cp (R5 S q1 b1 t1 wd1 v1 c1 M1) 234 0 233 0 187) 232 9 0)) (st' := []) rfl rfl rfl (c_X11_begins  (S := mx_up (mx_cp (R5 S q1 b1 t1 wd1 v1 c1 M1) 234 0 233 0 187) 232 9 0) (Bd_up hB3 (show (0 : Int) ≤ 0 from by omega) (show 0 ≤ (200 : Int) from by omega)) ) (by decide) rfl rfl (Nat.le_of_ble_eq_true rfl) (fun _ _ => ⟨_, _, rfl, rfl⟩) rfl rfl ?_
    have hB4 : Bd (begS (mx_up (mx_cp (R5 S q1 b1 t1 wd1 v1 c1 M1) 234 0 233 0 187) 232 9 0)) := Bd_begS (Bd_up hB3 (show (0 : Int) ≤ 0 from by omega) (show 0 ≤ (200 : Int) from by omega))
    refine r_aload (pc' := 37) rfl rfl rfl ?_
    refine r_getv (pc' := 40) (v := c1) rfl rfl (Or.inl rfl) rfl ((begS_o (by omega)).trans ((up_ne (by omega)).trans (cp_o (by omega)))) ?_
    refine q_iret rfl rfl rfl ?_
    exact ⟨_, c1, M1, q1, b1, t1, wd1, v1, hpf1, hB4, Or.inr ⟨by omega, rfl, rfl⟩⟩
  · refine r_icmp_eq0 (pc' := 8) rfl rfl (by omega) (by omega) ?_
    refine r_const (pc' := 10) rfl rfl ?_
    refine q_iret rfl rfl rfl ?_
    exact ⟨_, c1, M1, q1, b1, t1, wd1, v1, hpf1, hB1, Or.inl ⟨by omega, rfl, rfl⟩⟩
