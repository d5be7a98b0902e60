/-! BOTH SIDES OF ONE STEP -/
def CFr (S S' : rS) : Prop := ∀ a j : Int, ¬ (0 ≤ a ∧ a < 232) → S' a j = S a j
def RFr (S S' : rS) : Prop := ∀ a j : Int, a < 232 → S' a j = S a j
def LPP (S S' : rS) : Prop := IV S' S' ∧ ∀ j : Int, S' (-2) j = S (-2) j
section
variable {S S1 S2 : rS}
theorem iv_r (hS : Bd S) (h : IV S S) (f1 : CFr S S1) : IV S S1 := IV_cg h hS (fun _ _ _ => rfl) (fun a j z => f1 a j (by omega))
theorem lp_w (hS : Bd S) (h : IV S S) (f1 : CFr S S1) (f2 : RFr S1 S2) (h2 : Bd S2) (k : IV S S1 → IV S1 S2) : LPP S S2 :=
  ⟨IV_cg (k (iv_r hS h f1)) h2 (fun a j z => f2 a j (by omega)) (fun _ _ _ => rfl), fun j => (f2 _ _ (by omega)).trans (f1 _ _ (by omega))⟩
theorem lp_0 (h : IV S S) : LPP S S := ⟨h, fun _ => rfl⟩
theorem cf_write (hS : Bd S) {c : Int} : CFr S (w_X10_write S c).2 := by
  intro a j z
  unfold w_X10_write
  repeat' split
  all_goals dsimp only
  all_goals (repeat (first | rfl | rw [up_ne (by omega)] | rw [rem_o hS (by omega)] | rw [rmM_o (by omega)] | rw [fl_o (by omega)] | rw [tks_o (by omega)] | rw [cp_o (by omega)] | rw [rst_o (by omega)] | rw [rnw_o (by omega)] | rw [putl_o (by omega)] | rw [fz_o (by omega)]))
theorem rf_write (hS : Bd S) {c : Int} : RFr S (w_X11_write S c).2 := by
  intro a j z
  unfold w_X11_write
  repeat' split
  all_goals dsimp only
  all_goals (repeat (first | rfl | rw [up_ne (by omega)] | rw [rem_o hS (by omega)] | rw [rmM_o (by omega)] | rw [fl_o (by omega)] | rw [tks_o (by omega)] | rw [cp_o (by omega)] | rw [rst_o (by omega)] | rw [rnw_o (by omega)] | rw [putl_o (by omega)] | rw [fz_o (by omega)]))
theorem p_write (hS : Bd S) (h : IV S S) {c : Int} (h1 : Bd (w_X10_write S c).2) (h2 : Bd (w_X11_write (w_X10_write S c).2 c).2) : (w_X10_write S c).1 = (w_X11_write (w_X10_write S c).2 c).1 ∧ LPP S (w_X11_write (w_X10_write S c).2 c).2 :=
  ⟨(s_write hS h1 (iv_r hS h (cf_write hS))).1, lp_w hS h (cf_write hS) (rf_write h1) h2 (fun q => (s_write hS h1 q).2)⟩
theorem cf_erase (hS : Bd S) : CFr S (w_X10_erase S ).2 := by
  intro a j z
  unfold w_X10_erase
  repeat' split
  all_goals dsimp only
  all_goals (repeat (first | rfl | rw [up_ne (by omega)] | rw [rem_o hS (by omega)] | rw [rmM_o (by omega)] | rw [fl_o (by omega)] | rw [tks_o (by omega)] | rw [cp_o (by omega)] | rw [rst_o (by omega)] | rw [rnw_o (by omega)] | rw [putl_o (by omega)] | rw [fz_o (by omega)]))
theorem rf_erase (hS : Bd S) : RFr S (w_X11_erase S ).2 := by
  intro a j z
  unfold w_X11_erase
  repeat' split
  all_goals dsimp only
  all_goals (repeat (first | rfl | rw [up_ne (by omega)] | rw [rem_o hS (by omega)] | rw [rmM_o (by omega)] | rw [fl_o (by omega)] | rw [tks_o (by omega)] | rw [cp_o (by omega)] | rw [rst_o (by omega)] | rw [rnw_o (by omega)] | rw [putl_o (by omega)] | rw [fz_o (by omega)]))
theorem p_erase (hS : Bd S) (h : IV S S) (h1 : Bd (w_X10_erase S ).2) (h2 : Bd (w_X11_erase (w_X10_erase S ).2 ).2) : (w_X10_erase S ).1 = (w_X11_erase (w_X10_erase S ).2 ).1 ∧ LPP S (w_X11_erase (w_X10_erase S ).2 ).2 :=
  ⟨(s_erase hS h1 (iv_r hS h (cf_erase hS))).1, lp_w hS h (cf_erase hS) (rf_erase h1) h2 (fun q => (s_erase hS h1 q).2)⟩
theorem cf_forget (hS : Bd S) : CFr S (w_X10_forget S ).2 := by
  intro a j z
  unfold w_X10_forget
  repeat' split
  all_goals dsimp only
  all_goals (repeat (first | rfl | rw [up_ne (by omega)] | rw [rem_o hS (by omega)] | rw [rmM_o (by omega)] | rw [fl_o (by omega)] | rw [tks_o (by omega)] | rw [cp_o (by omega)] | rw [rst_o (by omega)] | rw [rnw_o (by omega)] | rw [putl_o (by omega)] | rw [fz_o (by omega)]))
theorem rf_forget (hS : Bd S) : RFr S (w_X11_forget S ).2 := by
  intro a j z
  unfold w_X11_forget
  repeat' split
  all_goals dsimp only
  all_goals (repeat (first | rfl | rw [up_ne (by omega)] | rw [rem_o hS (by omega)] | rw [rmM_o (by omega)] | rw [fl_o (by omega)] | rw [tks_o (by omega)] | rw [cp_o (by omega)] | rw [rst_o (by omega)] | rw [rnw_o (by omega)] | rw [putl_o (by omega)] | rw [fz_o (by omega)]))
theorem p_forget (hS : Bd S) (h : IV S S) (h1 : Bd (w_X10_forget S ).2) (h2 : Bd (w_X11_forget (w_X10_forget S ).2 ).2) : (w_X10_forget S ).1 = (w_X11_forget (w_X10_forget S ).2 ).1 ∧ LPP S (w_X11_forget (w_X10_forget S ).2 ).2 :=
  ⟨(s_forget hS h1 (iv_r hS h (cf_forget hS))).1, lp_w hS h (cf_forget hS) (rf_forget h1) h2 (fun q => (s_forget hS h1 q).2)⟩
theorem cf_seen (hS : Bd S) {f n m : Int} : CFr S (w_X10_seen S f n m).2 := by
  intro a j z
  unfold w_X10_seen
  repeat' split
  all_goals dsimp only
  all_goals (repeat (first | rfl | rw [up_ne (by omega)] | rw [rem_o hS (by omega)] | rw [rmM_o (by omega)] | rw [fl_o (by omega)] | rw [tks_o (by omega)] | rw [cp_o (by omega)] | rw [rst_o (by omega)] | rw [rnw_o (by omega)] | rw [putl_o (by omega)] | rw [fz_o (by omega)]))
theorem rf_seen (hS : Bd S) {f n m : Int} : RFr S (w_X11_seen S f n m).2 := by
  intro a j z
  unfold w_X11_seen
  repeat' split
  all_goals dsimp only
  all_goals (repeat (first | rfl | rw [up_ne (by omega)] | rw [rem_o hS (by omega)] | rw [rmM_o (by omega)] | rw [fl_o (by omega)] | rw [tks_o (by omega)] | rw [cp_o (by omega)] | rw [rst_o (by omega)] | rw [rnw_o (by omega)] | rw [putl_o (by omega)] | rw [fz_o (by omega)]))
theorem p_seen (hS : Bd S) (h : IV S S) {f n m : Int} (h1 : Bd (w_X10_seen S f n m).2) (h2 : Bd (w_X11_seen (w_X10_seen S f n m).2 f n m).2) : (w_X10_seen S f n m).1 = (w_X11_seen (w_X10_seen S f n m).2 f n m).1 ∧ LPP S (w_X11_seen (w_X10_seen S f n m).2 f n m).2 :=
  ⟨(s_seen hS h1 (iv_r hS h (cf_seen hS))).1, lp_w hS h (cf_seen hS) (rf_seen h1) h2 (fun q => (s_seen hS h1 q).2)⟩
theorem cf_through (hS : Bd S) {g : Int} : CFr S (w_X10_through S g).2 := by
  intro a j z
  unfold w_X10_through
  repeat' split
  all_goals dsimp only
  all_goals (repeat (first | rfl | rw [up_ne (by omega)] | rw [rem_o hS (by omega)] | rw [rmM_o (by omega)] | rw [fl_o (by omega)] | rw [tks_o (by omega)] | rw [cp_o (by omega)] | rw [rst_o (by omega)] | rw [rnw_o (by omega)] | rw [putl_o (by omega)] | rw [fz_o (by omega)]))
theorem rf_through (hS : Bd S) {g : Int} : RFr S (w_X11_through S g).2 := by
  intro a j z
  unfold w_X11_through
  repeat' split
  all_goals dsimp only
  all_goals (repeat (first | rfl | rw [up_ne (by omega)] | rw [rem_o hS (by omega)] | rw [rmM_o (by omega)] | rw [fl_o (by omega)] | rw [tks_o (by omega)] | rw [cp_o (by omega)] | rw [rst_o (by omega)] | rw [rnw_o (by omega)] | rw [putl_o (by omega)] | rw [fz_o (by omega)]))
theorem p_through (hS : Bd S) (h : IV S S) {g : Int} (h1 : Bd (w_X10_through S g).2) (h2 : Bd (w_X11_through (w_X10_through S g).2 g).2) : (w_X10_through S g).1 = (w_X11_through (w_X10_through S g).2 g).1 ∧ LPP S (w_X11_through (w_X10_through S g).2 g).2 :=
  ⟨(s_through hS h1 (iv_r hS h (cf_through hS))).1, lp_w hS h (cf_through hS) (rf_through h1) h2 (fun q => (s_through hS h1 q).2)⟩
theorem cf_read (hS : Bd S) : CFr S (w_X10_read S ).2 := by
  intro a j z
  unfold w_X10_read
  repeat' split
  all_goals dsimp only
  all_goals (repeat (first | rfl | rw [up_ne (by omega)] | rw [rem_o hS (by omega)] | rw [rmM_o (by omega)] | rw [fl_o (by omega)] | rw [tks_o (by omega)] | rw [cp_o (by omega)] | rw [rst_o (by omega)] | rw [rnw_o (by omega)] | rw [putl_o (by omega)] | rw [fz_o (by omega)]))
theorem rf_read (hS : Bd S) : RFr S (w_X11_read S ).2 := by
  intro a j z
  unfold w_X11_read
  repeat' split
  all_goals dsimp only
  all_goals (repeat (first | rfl | rw [up_ne (by omega)] | rw [rem_o hS (by omega)] | rw [rmM_o (by omega)] | rw [fl_o (by omega)] | rw [tks_o (by omega)] | rw [cp_o (by omega)] | rw [rst_o (by omega)] | rw [rnw_o (by omega)] | rw [putl_o (by omega)] | rw [fz_o (by omega)]))
theorem p_read (hS : Bd S) (h : IV S S) (h1 : Bd (w_X10_read S ).2) (h2 : Bd (w_X11_read (w_X10_read S ).2 ).2) : (w_X10_read S ).1 = (w_X11_read (w_X10_read S ).2 ).1 ∧ LPP S (w_X11_read (w_X10_read S ).2 ).2 :=
  ⟨(s_read hS h1 (iv_r hS h (cf_read hS))).1, lp_w hS h (cf_read hS) (rf_read h1) h2 (fun q => (s_read hS h1 q).2)⟩
theorem cf_plough (hS : Bd S) {f : Int} : CFr S (w_X10_plough S f).2 := by
  intro a j z
  unfold w_X10_plough
  repeat' split
  all_goals dsimp only
  all_goals (repeat (first | rfl | rw [up_ne (by omega)] | rw [rem_o hS (by omega)] | rw [rmM_o (by omega)] | rw [fl_o (by omega)] | rw [tks_o (by omega)] | rw [cp_o (by omega)] | rw [rst_o (by omega)] | rw [rnw_o (by omega)] | rw [putl_o (by omega)] | rw [fz_o (by omega)]))
theorem rf_plough (hS : Bd S) {f : Int} : RFr S (w_X11_plough S f).2 := by
  intro a j z
  unfold w_X11_plough
  repeat' split
  all_goals dsimp only
  all_goals (repeat (first | rfl | rw [up_ne (by omega)] | rw [rem_o hS (by omega)] | rw [rmM_o (by omega)] | rw [fl_o (by omega)] | rw [tks_o (by omega)] | rw [cp_o (by omega)] | rw [rst_o (by omega)] | rw [rnw_o (by omega)] | rw [putl_o (by omega)] | rw [fz_o (by omega)]))
theorem p_plough (hS : Bd S) (h : IV S S) {f : Int} (h1 : Bd (w_X10_plough S f).2) (h2 : Bd (w_X11_plough (w_X10_plough S f).2 f).2) : (w_X10_plough S f).1 = (w_X11_plough (w_X10_plough S f).2 f).1 ∧ LPP S (w_X11_plough (w_X10_plough S f).2 f).2 :=
  ⟨(s_plough hS h1 (iv_r hS h (cf_plough hS))).1, lp_w hS h (cf_plough hS) (rf_plough h1) h2 (fun q => (s_plough hS h1 q).2)⟩
theorem cf_day (hS : Bd S) : CFr S (w_X10_day S ).2 := by
  intro a j z
  unfold w_X10_day
  repeat' split
  all_goals dsimp only
  all_goals (repeat (first | rfl | rw [up_ne (by omega)] | rw [rem_o hS (by omega)] | rw [rmM_o (by omega)] | rw [fl_o (by omega)] | rw [tks_o (by omega)] | rw [cp_o (by omega)] | rw [rst_o (by omega)] | rw [rnw_o (by omega)] | rw [putl_o (by omega)] | rw [fz_o (by omega)]))
theorem rf_day (hS : Bd S) : RFr S (w_X11_day S ).2 := by
  intro a j z
  unfold w_X11_day
  repeat' split
  all_goals dsimp only
  all_goals (repeat (first | rfl | rw [up_ne (by omega)] | rw [rem_o hS (by omega)] | rw [rmM_o (by omega)] | rw [fl_o (by omega)] | rw [tks_o (by omega)] | rw [cp_o (by omega)] | rw [rst_o (by omega)] | rw [rnw_o (by omega)] | rw [putl_o (by omega)] | rw [fz_o (by omega)]))
theorem p_day (hS : Bd S) (h : IV S S) (h1 : Bd (w_X10_day S ).2) (h2 : Bd (w_X11_day (w_X10_day S ).2 ).2) : (w_X10_day S ).1 = (w_X11_day (w_X10_day S ).2 ).1 ∧ LPP S (w_X11_day (w_X10_day S ).2 ).2 :=
  ⟨(s_day hS h1 (iv_r hS h (cf_day hS))).1, lp_w hS h (cf_day hS) (rf_day h1) h2 (fun q => (s_day hS h1 q).2)⟩
theorem cf_rain (hS : Bd S) {r : Int} : CFr S (w_X10_rain S r).2 := by
  intro a j z
  unfold w_X10_rain
  repeat' split
  all_goals dsimp only
  all_goals (repeat (first | rfl | rw [up_ne (by omega)] | rw [rem_o hS (by omega)] | rw [rmM_o (by omega)] | rw [fl_o (by omega)] | rw [tks_o (by omega)] | rw [cp_o (by omega)] | rw [rst_o (by omega)] | rw [rnw_o (by omega)] | rw [putl_o (by omega)] | rw [fz_o (by omega)]))
theorem rf_rain (hS : Bd S) {r : Int} : RFr S (w_X11_rain S r).2 := by
  intro a j z
  unfold w_X11_rain
  repeat' split
  all_goals dsimp only
  all_goals (repeat (first | rfl | rw [up_ne (by omega)] | rw [rem_o hS (by omega)] | rw [rmM_o (by omega)] | rw [fl_o (by omega)] | rw [tks_o (by omega)] | rw [cp_o (by omega)] | rw [rst_o (by omega)] | rw [rnw_o (by omega)] | rw [putl_o (by omega)] | rw [fz_o (by omega)]))
theorem p_rain (hS : Bd S) (h : IV S S) {r : Int} (h1 : Bd (w_X10_rain S r).2) (h2 : Bd (w_X11_rain (w_X10_rain S r).2 r).2) : (w_X10_rain S r).1 = (w_X11_rain (w_X10_rain S r).2 r).1 ∧ LPP S (w_X11_rain (w_X10_rain S r).2 r).2 :=
  ⟨(s_rain hS h1 (iv_r hS h (cf_rain hS)) h1 h2).1, lp_w hS h (cf_rain hS) (rf_rain h1) h2 (fun q => (s_rain hS h1 q h1 h2).2)⟩
theorem cf_birds (hS : Bd S) : CFr S (w_X10_birds S ).2 := by
  intro a j z
  unfold w_X10_birds
  repeat' split
  all_goals dsimp only
  all_goals (repeat (first | rfl | rw [up_ne (by omega)] | rw [rem_o hS (by omega)] | rw [rmM_o (by omega)] | rw [fl_o (by omega)] | rw [tks_o (by omega)] | rw [cp_o (by omega)] | rw [rst_o (by omega)] | rw [rnw_o (by omega)] | rw [putl_o (by omega)] | rw [fz_o (by omega)]))
theorem rf_birds (hS : Bd S) : RFr S (w_X11_birds S ).2 := by
  intro a j z
  unfold w_X11_birds
  repeat' split
  all_goals dsimp only
  all_goals (repeat (first | rfl | rw [up_ne (by omega)] | rw [rem_o hS (by omega)] | rw [rmM_o (by omega)] | rw [fl_o (by omega)] | rw [tks_o (by omega)] | rw [cp_o (by omega)] | rw [rst_o (by omega)] | rw [rnw_o (by omega)] | rw [putl_o (by omega)] | rw [fz_o (by omega)]))
theorem p_birds (hS : Bd S) (h : IV S S) (h1 : Bd (w_X10_birds S ).2) (h2 : Bd (w_X11_birds (w_X10_birds S ).2 ).2) : (w_X10_birds S ).1 = (w_X11_birds (w_X10_birds S ).2 ).1 ∧ LPP S (w_X11_birds (w_X10_birds S ).2 ).2 :=
  ⟨(s_birds hS h1 (iv_r hS h (cf_birds hS)) h1 h2).1, lp_w hS h (cf_birds hS) (rf_birds h1) h2 (fun q => (s_birds hS h1 q h1 h2).2)⟩
theorem cf_undo (hS : Bd S) : CFr S (w_X10_undo S ).2 := by
  intro a j z
  unfold w_X10_undo
  repeat' split
  all_goals dsimp only
  all_goals (repeat (first | rfl | rw [up_ne (by omega)] | rw [rem_o hS (by omega)] | rw [rmM_o (by omega)] | rw [fl_o (by omega)] | rw [tks_o (by omega)] | rw [cp_o (by omega)] | rw [rst_o (by omega)] | rw [rnw_o (by omega)] | rw [putl_o (by omega)] | rw [fz_o (by omega)]))
theorem rf_undo (hS : Bd S) : RFr S (w_X11_undo S ).2 := by
  intro a j z
  unfold w_X11_undo
  repeat' split
  all_goals dsimp only
  all_goals (repeat (first | rfl | rw [up_ne (by omega)] | rw [rem_o hS (by omega)] | rw [rmM_o (by omega)] | rw [fl_o (by omega)] | rw [tks_o (by omega)] | rw [cp_o (by omega)] | rw [rst_o (by omega)] | rw [rnw_o (by omega)] | rw [putl_o (by omega)] | rw [fz_o (by omega)]))
theorem p_undo (hS : Bd S) (h : IV S S) (h1 : Bd (w_X10_undo S ).2) (h2 : Bd (w_X11_undo (w_X10_undo S ).2 ).2) : (w_X10_undo S ).1 = (w_X11_undo (w_X10_undo S ).2 ).1 ∧ LPP S (w_X11_undo (w_X10_undo S ).2 ).2 :=
  ⟨(s_undo hS h1 (iv_r hS h (cf_undo hS))).1, lp_w hS h (cf_undo hS) (rf_undo h1) h2 (fun q => (s_undo hS h1 q).2)⟩
theorem cf_keep (hS : Bd S) {k : Int} : CFr S (w_X10_keep S k).2 := by
  intro a j z
  unfold w_X10_keep
  repeat' split
  all_goals dsimp only
  all_goals (repeat (first | rfl | rw [up_ne (by omega)] | rw [rem_o hS (by omega)] | rw [rmM_o (by omega)] | rw [fl_o (by omega)] | rw [tks_o (by omega)] | rw [cp_o (by omega)] | rw [rst_o (by omega)] | rw [rnw_o (by omega)] | rw [putl_o (by omega)] | rw [fz_o (by omega)]))
theorem rf_keep (hS : Bd S) {k : Int} : RFr S (w_X11_keep S k).2 := by
  intro a j z
  unfold w_X11_keep
  repeat' split
  all_goals dsimp only
  all_goals (repeat (first | rfl | rw [up_ne (by omega)] | rw [rem_o hS (by omega)] | rw [rmM_o (by omega)] | rw [fl_o (by omega)] | rw [tks_o (by omega)] | rw [cp_o (by omega)] | rw [rst_o (by omega)] | rw [rnw_o (by omega)] | rw [putl_o (by omega)] | rw [fz_o (by omega)]))
theorem p_keep (hS : Bd S) (h : IV S S) {k : Int} (h1 : Bd (w_X10_keep S k).2) (h2 : Bd (w_X11_keep (w_X10_keep S k).2 k).2) : (w_X10_keep S k).1 = (w_X11_keep (w_X10_keep S k).2 k).1 ∧ LPP S (w_X11_keep (w_X10_keep S k).2 k).2 :=
  ⟨(s_keep hS h1 (iv_r hS h (cf_keep hS))).1, lp_w hS h (cf_keep hS) (rf_keep h1) h2 (fun q => (s_keep hS h1 q).2)⟩
theorem cf_back (hS : Bd S) {k : Int} : CFr S (w_X10_back S k).2 := by
  intro a j z
  unfold w_X10_back
  repeat' split
  all_goals dsimp only
  all_goals (repeat (first | rfl | rw [up_ne (by omega)] | rw [rem_o hS (by omega)] | rw [rmM_o (by omega)] | rw [fl_o (by omega)] | rw [tks_o (by omega)] | rw [cp_o (by omega)] | rw [rst_o (by omega)] | rw [rnw_o (by omega)] | rw [putl_o (by omega)] | rw [fz_o (by omega)]))
theorem rf_back (hS : Bd S) {k : Int} : RFr S (w_X11_back S k).2 := by
  intro a j z
  unfold w_X11_back
  repeat' split
  all_goals dsimp only
  all_goals (repeat (first | rfl | rw [up_ne (by omega)] | rw [rem_o hS (by omega)] | rw [rmM_o (by omega)] | rw [fl_o (by omega)] | rw [tks_o (by omega)] | rw [cp_o (by omega)] | rw [rst_o (by omega)] | rw [rnw_o (by omega)] | rw [putl_o (by omega)] | rw [fz_o (by omega)]))
theorem p_back (hS : Bd S) (h : IV S S) {k : Int} (h1 : Bd (w_X10_back S k).2) (h2 : Bd (w_X11_back (w_X10_back S k).2 k).2) : (w_X10_back S k).1 = (w_X11_back (w_X10_back S k).2 k).1 ∧ LPP S (w_X11_back (w_X10_back S k).2 k).2 :=
  ⟨(s_back hS h1 (iv_r hS h (cf_back hS))).1, lp_w hS h (cf_back hS) (rf_back h1) h2 (fun q => (s_back hS h1 q).2)⟩
theorem cf_shelf (hS : Bd S) {s l n : Int} : CFr S (w_X10_shelf S s l n).2 := by
  intro a j z
  unfold w_X10_shelf
  repeat' split
  all_goals dsimp only
  all_goals (repeat (first | rfl | rw [up_ne (by omega)] | rw [rem_o hS (by omega)] | rw [rmM_o (by omega)] | rw [fl_o (by omega)] | rw [tks_o (by omega)] | rw [cp_o (by omega)] | rw [rst_o (by omega)] | rw [rnw_o (by omega)] | rw [putl_o (by omega)] | rw [fz_o (by omega)]))
theorem rf_shelf (hS : Bd S) {s l n : Int} : RFr S (w_X11_shelf S s l n).2 := by
  intro a j z
  unfold w_X11_shelf
  repeat' split
  all_goals dsimp only
  all_goals (repeat (first | rfl | rw [up_ne (by omega)] | rw [rem_o hS (by omega)] | rw [rmM_o (by omega)] | rw [fl_o (by omega)] | rw [tks_o (by omega)] | rw [cp_o (by omega)] | rw [rst_o (by omega)] | rw [rnw_o (by omega)] | rw [putl_o (by omega)] | rw [fz_o (by omega)]))
theorem p_shelf (hS : Bd S) (h : IV S S) {s l n : Int} (h1 : Bd (w_X10_shelf S s l n).2) (h2 : Bd (w_X11_shelf (w_X10_shelf S s l n).2 s l n).2) : (w_X10_shelf S s l n).1 = (w_X11_shelf (w_X10_shelf S s l n).2 s l n).1 ∧ LPP S (w_X11_shelf (w_X10_shelf S s l n).2 s l n).2 :=
  ⟨(s_shelf hS h1 (iv_r hS h (cf_shelf hS))).1, lp_w hS h (cf_shelf hS) (rf_shelf h1) h2 (fun q => (s_shelf hS h1 q).2)⟩
theorem cf_drop (hS : Bd S) {s : Int} : CFr S (w_X10_drop S s).2 := by
  intro a j z
  unfold w_X10_drop
  repeat' split
  all_goals dsimp only
  all_goals (repeat (first | rfl | rw [up_ne (by omega)] | rw [rem_o hS (by omega)] | rw [rmM_o (by omega)] | rw [fl_o (by omega)] | rw [tks_o (by omega)] | rw [cp_o (by omega)] | rw [rst_o (by omega)] | rw [rnw_o (by omega)] | rw [putl_o (by omega)] | rw [fz_o (by omega)]))
theorem rf_drop (hS : Bd S) {s : Int} : RFr S (w_X11_drop S s).2 := by
  intro a j z
  unfold w_X11_drop
  repeat' split
  all_goals dsimp only
  all_goals (repeat (first | rfl | rw [up_ne (by omega)] | rw [rem_o hS (by omega)] | rw [rmM_o (by omega)] | rw [fl_o (by omega)] | rw [tks_o (by omega)] | rw [cp_o (by omega)] | rw [rst_o (by omega)] | rw [rnw_o (by omega)] | rw [putl_o (by omega)] | rw [fz_o (by omega)]))
theorem p_drop (hS : Bd S) (h : IV S S) {s : Int} (h1 : Bd (w_X10_drop S s).2) (h2 : Bd (w_X11_drop (w_X10_drop S s).2 s).2) : (w_X10_drop S s).1 = (w_X11_drop (w_X10_drop S s).2 s).1 ∧ LPP S (w_X11_drop (w_X10_drop S s).2 s).2 :=
  ⟨(s_drop hS h1 (iv_r hS h (cf_drop hS))).1, lp_w hS h (cf_drop hS) (rf_drop h1) h2 (fun q => (s_drop hS h1 q).2)⟩
theorem cf_lay (hS : Bd S) {s l i v : Int} : CFr S (w_X10_lay S s l i v).2 := by
  by_cases c0 : v_X10_laneRefusal S s l = 0
  · have q := lrf c0
    intro a j z
    unfold w_X10_lay
    rw [if_pos c0]
    split
    · show putl S s i v a j = S a j
      exact putl_o (by omega)
    · rfl
  · intro a j z
    unfold w_X10_lay
    rw [if_neg c0]
theorem rf_lay (hS : Bd S) {s l i v : Int} : RFr S (w_X11_lay S s l i v).2 := by
  intro a j z
  unfold w_X11_lay
  repeat' split
  all_goals dsimp only
  all_goals (repeat (first | rfl | rw [up_ne (by omega)] | rw [rem_o hS (by omega)] | rw [rmM_o (by omega)] | rw [fl_o (by omega)] | rw [tks_o (by omega)] | rw [cp_o (by omega)] | rw [rst_o (by omega)] | rw [rnw_o (by omega)] | rw [putl_o (by omega)] | rw [fz_o (by omega)]))
theorem p_lay (hS : Bd S) (h : IV S S) {s l i v : Int} (h1 : Bd (w_X10_lay S s l i v).2) (h2 : Bd (w_X11_lay (w_X10_lay S s l i v).2 s l i v).2) : (w_X10_lay S s l i v).1 = (w_X11_lay (w_X10_lay S s l i v).2 s l i v).1 ∧ LPP S (w_X11_lay (w_X10_lay S s l i v).2 s l i v).2 :=
  ⟨(s_lay hS h1 (iv_r hS h (cf_lay hS))).1, lp_w hS h (cf_lay hS) (rf_lay h1) h2 (fun q => (s_lay hS h1 q).2)⟩
theorem cf_copy (hS : Bd S) {f i t j n : Int} : CFr S (w_X10_copy S f i t j n).2 := by
  intro a j z
  unfold w_X10_copy
  repeat' split
  all_goals dsimp only
  all_goals (repeat (first | rfl | rw [up_ne (by omega)] | rw [rem_o hS (by omega)] | rw [rmM_o (by omega)] | rw [fl_o (by omega)] | rw [tks_o (by omega)] | rw [cp_o (by omega)] | rw [rst_o (by omega)] | rw [rnw_o (by omega)] | rw [putl_o (by omega)] | rw [fz_o (by omega)]))
theorem rf_copy (hS : Bd S) {f i t j n : Int} : RFr S (w_X11_copy S f i t j n).2 := by
  intro a j z
  unfold w_X11_copy
  repeat' split
  all_goals dsimp only
  all_goals (repeat (first | rfl | rw [up_ne (by omega)] | rw [rem_o hS (by omega)] | rw [rmM_o (by omega)] | rw [fl_o (by omega)] | rw [tks_o (by omega)] | rw [cp_o (by omega)] | rw [rst_o (by omega)] | rw [rnw_o (by omega)] | rw [putl_o (by omega)] | rw [fz_o (by omega)]))
theorem p_copy (hS : Bd S) (h : IV S S) {f i t j n : Int} (h1 : Bd (w_X10_copy S f i t j n).2) (h2 : Bd (w_X11_copy (w_X10_copy S f i t j n).2 f i t j n).2) : (w_X10_copy S f i t j n).1 = (w_X11_copy (w_X10_copy S f i t j n).2 f i t j n).1 ∧ LPP S (w_X11_copy (w_X10_copy S f i t j n).2 f i t j n).2 :=
  ⟨(s_copy hS h1 (iv_r hS h (cf_copy hS))).1, lp_w hS h (cf_copy hS) (rf_copy h1) h2 (fun q => (s_copy hS h1 q).2)⟩
end
