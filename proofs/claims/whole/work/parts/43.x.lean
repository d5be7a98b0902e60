/-! THE CLASS's CLAUSES ARE DONE -/
def cM (f g w : Int) : Int → Int := fun j => if j = 0 then f else if j = 85 then g else if j = 113 then w else 0
theorem pfl_wf {S : rS} (hB : Bd S) {n : Int} {RR : Int → Int → Int} (h : pfl (S 2) (S 1 1) 20 0 0 (fun x j => S (5 + x) j) (S 25 0) (S 25 6) (S 25 10) = (-1, n, RR)) : (∀ i, 0 ≤ i → i < n → WFR (S 2) (RR i)) ∧ 0 ≤ n ∧ n ≤ 20 := by
  have b11 : 0 ≤ S 1 1 ∧ S 1 1 ≤ 200 := hB 1 1
  have b0 : 0 ≤ S 25 0 ∧ S 25 0 ≤ 7 := hB 25 0
  have b6 : 0 ≤ S 25 6 ∧ S 25 6 ≤ 9 := hB 25 6
  have b10 : 0 ≤ S 25 10 ∧ S 25 10 ≤ 8 := hB 25 10
  have q := pfl_rdl (T := S 2) (M0 := cM (S 25 0) (S 25 6) (S 25 10)) (n := S 1 1) b11.2 20 0 0 (fun x j => S (5 + x) j) (cM (S 25 0) (S 25 6) (S 25 10)) rfl (by omega) (by omega) (by omega) ⟨b0, b6, b10⟩ rfl (fun i h0 h1 => absurd h1 (by omega)) (fun i h0 h1 => by rw [show i = 0 by omega]; exact ⟨b0, b6, b10⟩)
  have q := q.2.2
  have q2 : pfl (S 2) (S 1 1) 20 0 0 (fun x j => S (5 + x) j) (cM (S 25 0) (S 25 6) (S 25 10) 0) (cM (S 25 0) (S 25 6) (S 25 10) 85) (cM (S 25 0) (S 25 6) (S 25 10) 113) = (-1, n, RR) := h
  rw [q2] at q
  exact ⟨(q rfl).1.2.1, (q rfl).1.2.2.1, (q rfl).1.2.2.2.1⟩
noncomputable def tlf (S : rS) (c : Int) : rS := fo (fun cc xx => (w_X3_tell xx cc).2) S c.toNat
theorem tlf_0 (S : rS) : S = tlf S 0 := rfl
theorem tlf_s {S : rS} {c : Int} (h : 0 ≤ c) : tlf S (c + 1) = (w_X3_tell (tlf S c) c).2 := fo_s h
noncomputable def PXC (U : rS) (n : Int) : rS := mx_up (fl (mx_up (mx_up (bgn (meas (tlf U n))) 61 0 0) 81 0 0) 80 (fun _ => 0) 2) 1 1 0
theorem c_X10_parish {S : rS} (hB : Bd S) : CS 10 41 [.inr (.inr 0)] S (fun r' S' => ∃ (ans e n : Int) (RR : Int → Int → Int) (f g w : Int), pfl (S 2) (S 1 1) 20 0 0 (fun x j => S (5 + x) j) (S 25 0) (S 25 6) (S 25 10) = (ans, n, RR) ∧ (Bd S' ∧ Bd (FM S e n RR f g w)) ∧ ((ans ≠ -1 ∧ r' = some (.inl (-4)) ∧ S' = FM S e n RR f g w) ∨ (ans = -1 ∧ r' = some (.inl n) ∧ S' = PXC (FM S e n RR f g w) n))) := by
  refine RS.beg (ls := [some (.inr (.inr 0)), none]) rfl rfl rfl rfl rfl ?_
  refine r_aload (pc' := 1) rfl rfl rfl ?_
  refine r_getr (pc' := 4) (v := 3) rfl rfl rfl rfl rfl ?_
  refine r_aload (pc' := 5) rfl rfl rfl ?_
  refine r_getr (pc' := 8) (v := 25) rfl rfl rfl rfl rfl ?_
  refine q_call (pc' := 11) (P := fun r' S' => ∃ (ans e n : Int) (RR : Int → Int → Int) (f g w : Int), Bd S' ∧ S' = FM S e n RR f g w ∧ r' = some (.inl ans) ∧ (-1 ≤ ans ∧ ans ≤ 200) ∧ pfl (S 2) (S 1 1) 20 0 0 (fun x j => S (5 + x) j) (S 25 0) (S 25 6) (S 25 10) = (ans, n, RR)) rfl rfl rfl (c_X0_findFault  (S := S) hB ) (by decide) rfl rfl (Nat.le_of_ble_eq_true rfl) (fun _ _ => ⟨_, _, rfl, rfl⟩) rfl ?_
  intro r1 T1 hq1 hz1
  obtain ⟨ans1, e1, n1, RR1, f1, g1, w1, hB1, rfl, rfl, hrg1, hpf1⟩ := hq1
  show RS _ _ _ _ _ [.inl ans1] _
  refine r_const (pc' := 12) rfl rfl ?_
  by_cases h2 : ans1 = (-1)
  · refine r_icmp_eq1 (pc' := 18) rfl rfl (by omega) (by omega) ?_
    refine r_const (pc' := 19) rfl rfl ?_
    refine r_istore (pc' := 20) (ls' := [some (.inr (.inr 0)), some (.inl 0)]) rfl rfl rfl rfl ?_
    obtain rfl : ans1 = -1 := by omega
    have hW := pfl_wf hB hpf1
    refine r_mem (show (FM S e1 n1 RR1 f1 g1 w1) = tlf (FM S e1 n1 RR1 f1 g1 w1) (0 : Int) from by exact tlf_0 _) ?_
    refine r_while (α := Int) (fun z' => [some (.inr (.inr 0)), some (.inl z')]) (fun z' => tlf (FM S e1 n1 RR1 f1 g1 w1) z') (fun z' => (0 ≤ z' ∧ z' ≤ n1) ∧ (Bd (tlf (FM S e1 n1 RR1 f1 g1 w1) z')) ∧ (∀ a j : Int, ¬ (25 ≤ a ∧ a ≤ 50) → tlf (FM S e1 n1 RR1 f1 g1 w1) z' a j = (FM S e1 n1 RR1 f1 g1 w1) a j)) (fun z' => (n1 - z').toNat) ?_ 0 (show (0 ≤ (0 : Int) ∧ (0 : Int) ≤ n1) ∧ (Bd (tlf (FM S e1 n1 RR1 f1 g1 w1) (0 : Int))) ∧ (∀ a j : Int, ¬ (25 ≤ a ∧ a ≤ 50) → tlf (FM S e1 n1 RR1 f1 g1 w1) (0 : Int) a j = (FM S e1 n1 RR1 f1 g1 w1) a j) from by exact ⟨by omega, hB1, fun _ _ _ => rfl⟩)
    rintro k hI' ih20
    have hI' : (0 ≤ k ∧ k ≤ n1) ∧ (Bd (tlf (FM S e1 n1 RR1 f1 g1 w1) k)) ∧ (∀ a j : Int, ¬ (25 ≤ a ∧ a ≤ 50) → tlf (FM S e1 n1 RR1 f1 g1 w1) k a j = (FM S e1 n1 RR1 f1 g1 w1) a j) := hI'
    obtain ⟨hk, hG, hO⟩ := hI'
    show RS _ _ _ _ [some (.inr (.inr 0)), some (.inl k)] [] (tlf (FM S e1 n1 RR1 f1 g1 w1) k)
    have hB3 : Bd (tlf (FM S e1 n1 RR1 f1 g1 w1) k) := by exact hG
    refine r_iload (pc' := 21) rfl rfl rfl ?_
    refine r_aload (pc' := 22) rfl rfl rfl ?_
    refine r_getr (pc' := 25) (v := 3) rfl rfl rfl rfl rfl ?_
    refine r_getv (pc' := 28) (v := n1) rfl rfl (Or.inl rfl) rfl (hO 3 1 (by omega)) ?_
    by_cases h4 : k < n1
    · refine r_icmp_ge0 (pc' := 31) rfl rfl (by omega) (by omega) ?_
      refine r_aload (pc' := 32) rfl rfl rfl ?_
      refine r_getr (pc' := 35) (v := 25) rfl rfl rfl rfl rfl ?_
      refine r_aload (pc' := 36) rfl rfl rfl ?_
      refine r_getr (pc' := 39) (v := 3) rfl rfl rfl rfl rfl ?_
      refine r_getr (pc' := 42) (v := 4) rfl rfl rfl rfl rfl ?_
      refine r_iload (pc' := 43) rfl rfl rfl ?_
      refine r_aald (pc' := 44) (v := (5 + k)) 102020 rfl rfl rfl rfl (by omega) rfl ?_
      refine r_aload (pc' := 45) rfl rfl rfl ?_
      refine r_getr (pc' := 48) (v := 1) rfl rfl rfl rfl rfl ?_
      have hw : WFR (tlf (FM S e1 n1 RR1 f1 g1 w1) k 2) (tlf (FM S e1 n1 RR1 f1 g1 w1) k (5 + k)) := by
        rw [show tlf (FM S e1 n1 RR1 f1 g1 w1) k 2 = S 2 from (funext fun j => hO 2 j (by omega)).trans FM_2, show tlf (FM S e1 n1 RR1 f1 g1 w1) k (5 + k) = RR1 k from (funext fun j => hO (5 + k) j (by omega)).trans (FM_row (by omega))]
        exact hW.1 k hk.1 (by omega)
      refine q_call (pc' := 51) (P := fun r' S' => r' = none ∧ S' = (w_X3_tell (tlf (FM S e1 n1 RR1 f1 g1 w1) k) k).2 ∧ Bd S' ∧ (∀ a j : Int, ¬ (25 ≤ a ∧ a ≤ 50) → S' a j = (tlf (FM S e1 n1 RR1 f1 g1 w1) k) a j)) rfl rfl rfl (c_X3_tell (c := k) (S := (tlf (FM S e1 n1 RR1 f1 g1 w1) k)) hB3 (show 0 ≤ k ∧ k < 20 from by omega) (show WFR ((tlf (FM S e1 n1 RR1 f1 g1 w1) k) 2) ((tlf (FM S e1 n1 RR1 f1 g1 w1) k) (5 + k)) from by exact hw)) (by decide) rfl rfl (Nat.le_of_ble_eq_true rfl) (fun _ _ => ⟨_, _, rfl, rfl⟩) rfl ?_
      rintro _ _ ⟨rfl, rfl, hB5, he5⟩ hz5
      show RS _ _ _ _ _ [] (w_X3_tell (tlf (FM S e1 n1 RR1 f1 g1 w1) k) k).2
      refine r_iinc (pc' := 54) (ls' := [some (.inr (.inr 0)), some (.inl (k + 1))]) rfl rfl rfl rfl rfl ?_
      refine r_goto (pc' := 20) rfl rfl ?_
      refine r_mem (show (w_X3_tell (tlf (FM S e1 n1 RR1 f1 g1 w1) k) k).2 = tlf (FM S e1 n1 RR1 f1 g1 w1) (k + 1) from by exact (tlf_s (by omega)).symm) ?_
      exact ih20 (k + 1) (show (0 ≤ (k + 1) ∧ (k + 1) ≤ n1) ∧ (Bd (tlf (FM S e1 n1 RR1 f1 g1 w1) (k + 1))) ∧ (∀ a j : Int, ¬ (25 ≤ a ∧ a ≤ 50) → tlf (FM S e1 n1 RR1 f1 g1 w1) (k + 1) a j = (FM S e1 n1 RR1 f1 g1 w1) a j) from by exact ⟨by omega, by rw [tlf_s (by omega)]; exact hB5, fun a j h => by rw [tlf_s (by omega)]; exact (he5 a j h).trans (hO a j h)⟩) (show (n1 - (k + 1)).toNat < (n1 - k).toNat from by omega)
    · refine r_icmp_ge1 (pc' := 57) rfl rfl (by omega) (by omega) ?_
      refine r_aload (pc' := 58) rfl rfl rfl ?_
      refine r_getr (pc' := 61) (v := 25) rfl rfl rfl rfl rfl ?_
      refine q_callE (pc' := 64) (w := none) (S2 := meas (tlf (FM S e1 n1 RR1 f1 g1 w1) k)) (st' := []) rfl rfl rfl (c_X3_measure  (S := (tlf (FM S e1 n1 RR1 f1 g1 w1) k)) hB3 ) (by decide) rfl rfl (Nat.le_of_ble_eq_true rfl) (fun _ _ => ⟨_, _, rfl, rfl⟩) rfl rfl ?_
      have hB6 : Bd (meas (tlf (FM S e1 n1 RR1 f1 g1 w1) k)) := Bd_meas hB3
      refine r_aload (pc' := 65) rfl rfl rfl ?_
      refine r_getr (pc' := 68) (v := 59) rfl rfl rfl rfl rfl ?_
      refine r_aload (pc' := 69) rfl rfl rfl ?_
      refine r_getr (pc' := 72) (v := 25) rfl rfl rfl rfl rfl ?_
      refine q_callE (pc' := 75) (w := none) (S2 := bgn (meas (tlf (FM S e1 n1 RR1 f1 g1 w1) k))) (st' := []) rfl rfl rfl (c_X7_begin  (S := (meas (tlf (FM S e1 n1 RR1 f1 g1 w1) k))) hB6 ) (by decide) rfl rfl (Nat.le_of_ble_eq_true rfl) (fun _ _ => ⟨_, _, rfl, rfl⟩) rfl rfl ?_
      have hB7 : Bd (bgn (meas (tlf (FM S e1 n1 RR1 f1 g1 w1) k))) := Bd_bgn hB6
      refine r_aload (pc' := 76) rfl rfl rfl ?_
      refine r_getr (pc' := 79) (v := 61) rfl rfl rfl rfl rfl ?_
      refine r_const (pc' := 80) rfl rfl ?_
      refine r_put (pc' := 83) rfl rfl rfl rfl ?_
      refine r_aload (pc' := 84) rfl rfl rfl ?_
      refine r_getr (pc' := 87) (v := 81) rfl rfl rfl rfl rfl ?_
      refine r_const (pc' := 88) rfl rfl ?_
      refine r_put (pc' := 91) rfl rfl rfl rfl ?_
      refine r_const (pc' := 92) rfl rfl ?_
      refine r_istore (pc' := 93) (ls' := [some (.inr (.inr 0)), some (.inl 0)]) rfl rfl rfl rfl ?_
      refine r_mem (show mx_up (mx_up (bgn (meas (tlf (FM S e1 n1 RR1 f1 g1 w1) k))) 61 0 0) 81 0 0 = fl (mx_up (mx_up (bgn (meas (tlf (FM S e1 n1 RR1 f1 g1 w1) k))) 61 0 0) 81 0 0) 80 (fun _ => 0) (0 : Int) from by exact fl_0 _ _ _) ?_
      refine r_while (α := Int) (fun z' => [some (.inr (.inr 0)), some (.inl z')]) (fun z' => fl (mx_up (mx_up (bgn (meas (tlf (FM S e1 n1 RR1 f1 g1 w1) k))) 61 0 0) 81 0 0) 80 (fun _ => 0) z') (fun z' => (0 ≤ z' ∧ z' ≤ 2)) (fun z' => (2 - z').toNat) ?_ 0 (show (0 ≤ (0 : Int) ∧ (0 : Int) ≤ 2) from by omega)
      rintro i hI' ih93
      have hI' : (0 ≤ i ∧ i ≤ 2) := hI'
      have hi := hI'
      show RS _ _ _ _ [some (.inr (.inr 0)), some (.inl i)] [] (fl (mx_up (mx_up (bgn (meas (tlf (FM S e1 n1 RR1 f1 g1 w1) k))) 61 0 0) 81 0 0) 80 (fun _ => 0) i)
      have hB8 : Bd (fl (mx_up (mx_up (bgn (meas (tlf (FM S e1 n1 RR1 f1 g1 w1) k))) 61 0 0) 81 0 0) 80 (fun _ => 0) i) := by exact Bd_fl (Bd_up (Bd_up hB7 (show (0 : Int) ≤ 0 from by omega) (show 0 ≤ (8 : Int) from by omega)) (show (0 : Int) ≤ 0 from by omega) (show 0 ≤ (6 : Int) from by omega)) (fun kk _ _ => ⟨show (0 : Int) ≤ 0 by omega, show (0 : Int) ≤ 1 by omega⟩)
      refine r_iload (pc' := 94) rfl rfl rfl ?_
      refine r_const (pc' := 95) rfl rfl ?_
      by_cases h9 : i < 2
      · refine r_icmp_ge0 (pc' := 98) rfl rfl (by omega) (by omega) ?_
        refine r_aload (pc' := 99) rfl rfl rfl ?_
        refine r_getr (pc' := 102) (v := 80) rfl rfl rfl rfl rfl ?_
        refine r_iload (pc' := 103) rfl rfl rfl ?_
        refine r_const (pc' := 104) rfl rfl ?_
        refine r_bast (pc' := 105) 2 rfl rfl rfl (by omega) (by omega) ?_
        refine r_iinc (pc' := 108) (ls' := [some (.inr (.inr 0)), some (.inl (i + 1))]) rfl rfl rfl rfl rfl ?_
        refine r_goto (pc' := 93) rfl rfl ?_
        refine r_mem (show mx_up (fl (mx_up (mx_up (bgn (meas (tlf (FM S e1 n1 RR1 f1 g1 w1) k))) 61 0 0) 81 0 0) 80 (fun _ => 0) i) 80 i 0 = fl (mx_up (mx_up (bgn (meas (tlf (FM S e1 n1 RR1 f1 g1 w1) k))) 61 0 0) 81 0 0) 80 (fun _ => 0) (i + 1) from by exact fl_s (by omega) rfl) ?_
        exact ih93 (i + 1) (show (0 ≤ (i + 1) ∧ (i + 1) ≤ 2) from by omega) (show (2 - (i + 1)).toNat < (2 - i).toNat from by omega)
      · refine r_icmp_ge1 (pc' := 111) rfl rfl (by omega) (by omega) ?_
        refine r_aload (pc' := 112) rfl rfl rfl ?_
        refine r_getr (pc' := 115) (v := 1) rfl rfl rfl rfl rfl ?_
        refine r_const (pc' := 116) rfl rfl ?_
        refine r_put (pc' := 119) rfl rfl rfl rfl ?_
        refine r_aload (pc' := 120) rfl rfl rfl ?_
        refine r_getr (pc' := 123) (v := 3) rfl rfl rfl rfl rfl ?_
        refine r_getv (pc' := 126) (v := n1) rfl rfl (Or.inl rfl) rfl ((up_ne (by omega)).trans ((fl_o (by omega)).trans ((up_ne (by omega)).trans ((up_ne (by omega)).trans ((bgn_o (by omega)).trans ((meas_o (by omega)).trans (hO 3 1 (by omega)))))))) ?_
        refine q_iret rfl rfl rfl ?_
        obtain rfl : n1 = k := by omega
        obtain rfl : i = 2 := by omega
        exact ⟨_, e1, n1, RR1, f1, g1, w1, hpf1, ⟨(Bd_up hB8 (show (0 : Int) ≤ 0 from by omega) (show 0 ≤ (200 : Int) from by omega)), hB1⟩, Or.inr ⟨by omega, rfl, rfl⟩⟩
  · refine r_icmp_eq0 (pc' := 15) rfl rfl (by omega) (by omega) ?_
    refine r_const (pc' := 17) rfl rfl ?_
    refine q_iret rfl rfl rfl ?_
    exact ⟨_, e1, n1, RR1, f1, g1, w1, hpf1, ⟨hB1, hB1⟩, Or.inl ⟨by omega, rfl, rfl⟩⟩
