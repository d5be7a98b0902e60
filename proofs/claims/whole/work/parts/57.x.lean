/-! BOTH SIDES OF ONE STEP: feast, list, fault, parish -/
section
variable {S S1 S2 A A' B B' : rS}
theorem IV_sh (h : IV A B) (hB : Bd B) (h1 : ∀ a j : Int, (a = 1 ∧ j = 1) ∨ a = 2 ∨ 25 ≤ a ∧ a ≤ 84 ∨ 220 ≤ a ∧ a ≤ 223 → A' a j = A a j) (h2 : ∀ a j : Int, (a = 232 ∧ (j = 5 ∨ j = 9 ∨ j = 11)) ∨ a = 233 ∨ 235 ≤ a ∧ a ≤ 241 → B' a j = B a j) (hS : SHr A' B') : IV A' B' := by
  obtain ⟨a, ⟨b1, b2, b3, b4⟩, ⟨c1, c2, c3⟩, d, e, f, g, i⟩ := h
  have n0 : 0 ≤ B 233 0 ∧ B 233 0 ≤ 7 := hB 233 0
  have e233 : B' 233 = B 233 := funext fun j => h2 233 j (by omega)
  refine ⟨TX_cg a (fun a j h => h1 a j (by omega)) (fun a j h => h2 a j (by omega)), ?_, ?_, NW_cg d n0 (fun a j h => h1 a j (by omega)) (fun a j h => h2 a j (by omega)), PS_cg e n0 (fun a j h => h1 a j (by omega)) (fun a j h => h2 a j (by omega)), KP_cg f n0 (fun a j h => h1 a j (by omega)) (fun a j h => h2 a j (by omega)), SG_cg g (fun a j h => h1 a j (by omega)) (fun a j h => h2 a j (by omega)), hS⟩
  · rw [e233]; exact ⟨PA_cg b1 (PBB hB) (fun a j h => h1 a j (by omega)), b2, b3, b4⟩
  · rw [e233]; exact ⟨WY_cg c1 n0.2 (fun a j h => h1 a j (by omega)) (fun j => h2 235 j (by omega)), TRI_cg c2 (fun j => h2 235 j (by omega)), WB_cg c3 (fun j => h2 235 j (by omega))⟩
theorem ls_sh (h : IV A B) (hB : Bd B) {s i n : Int} (hs : 0 ≤ s ∧ s < 4) (as' : A (224 + 2 * s) 0 ≠ 0) (hi : 0 ≤ i ∧ i + n ≤ 24) (e : ∀ k : Int, 0 ≤ k → k < n → A 86 k = B 248 k) : IV (mx_cp A 86 0 (225 + 2 * s) i n) (mx_cp B 248 0 244 (24 * s + i) n) := by
  have sh := h.2.2.2.2.2.2.2
  refine IV_sh h hB (fun a j z => cp_o (by omega)) (fun a j z => cp_o (by omega)) (fun x x0 x1 => ?_)
  by_cases z : x = s
  · rw [z]
    rcases sh s hs.1 hs.2 with ⟨a, b⟩ | ⟨a, b, c, d, w⟩
    · exact absurd a as'
    refine Or.inr ⟨by rw [cp_o (by omega)]; exact a, by rw [cp_o (by omega)]; exact b, by rw [cp_o (by omega), cp_o (by omega)]; exact c, by rw [cp_o (by omega), cp_o (by omega)]; exact d, fun y y0 y1 => ?_⟩
    by_cases q : i ≤ y ∧ y < i + n
    · rw [cp_i q, cp_i (by omega), e _ (by omega) (by omega)]; exact congrArg (B 248) (by omega)
    · rw [cp_ox (by omega), cp_ox (by omega)]; exact w y y0 y1
  · exact SH1_cg (sh x x0 x1) (fun j => by rw [cp_o (by omega)]) (fun j => by rw [cp_o (by omega)]) (by rw [cp_o (by omega)]) (by rw [cp_o (by omega)]) (fun j j0 j1 => by rw [cp_ox (by omega)])
theorem cf_FD (h : FD S S1) : CFr S S1 := fun a j z => FD_o h (by omega)
theorem rf_FRR (h : FRR S1 S2) : RFr S1 S2 := fun a j z => h a j (by omega)
theorem iv_FD (hB : Bd S1) (h : FD S A) (h' : FRR S1 B) (q : IV S S1) : IV A B := IV_cg q hB (fun a j z => FD_o h (by omega)) (fun a j z => h' a j (by omega))
abbrev PCfeast (S : rS) (k : Int) : rQ := fun r' S' => (¬ (-2 ≤ k ∧ k < 7) → r' = some (.inl (-3)) ∧ S' = S) ∧ (-2 ≤ k ∧ k < 7 → Bd S' ∧ FD S S' ∧ r' = some (.inl (if k = -1 then S' 85 2 else if k = -2 then S' 85 1 else if k < S' 85 1 then S' 86 k else -1)))
abbrev PRfeast (S : rS) (k : Int) : rQ := fun r' S' => (¬ (-2 ≤ k ∧ k ≤ 6) → r' = some (.inl (-3)) ∧ S' = S) ∧ (-2 ≤ k ∧ k ≤ 6 → Bd S' ∧ FRR S S' ∧ bst S' = TOTF S ∧ r' = some (.inl (fsA (TOTF S) k)))
variable {r1 r2 : Option mx_V}
theorem g_feast (hS : Bd S) {k : Int} (p : PCfeast S k r1 S1) : Bd S1 ∧ ∃ v, r1 = some (.inl v) := by
  by_cases c : -2 ≤ k ∧ k < 7
  · exact ⟨(p.2 c).1, _, (p.2 c).2.2⟩
  · rw [(p.1 c).2]; exact ⟨hS, _, (p.1 c).1⟩
theorem p_feast (hS : Bd S) (h : IV S S) (hB1 : Bd S1) {k : Int} (p : PCfeast S k r1 S1) (q : PRfeast S1 k r2 S2) : r2 = r1 ∧ Bd S2 ∧ LPP S S2 := by
  by_cases c : -2 ≤ k ∧ k < 7
  · obtain ⟨_, p2, p3⟩ := p.2 c
    obtain ⟨q1, q2, _, q4⟩ := q.2 (by omega)
    have e := feast_e hS hB1 (iv_r hS h (cf_FD p2)) p2
    refine ⟨?_, q1, lp_w hS h (cf_FD p2) (rf_FRR q2) q1 (fun z => iv_FD hB1 p2 q2 z)⟩
    rw [q4, p3]
    refine congrArg (fun z => some (Sum.inl z)) ?_
    unfold fsA
    by_cases k1 : k = -1
    · rw [if_pos k1, if_pos k1, e.1]
    by_cases k2 : k = -2
    · rw [if_neg k1, if_pos k2, if_neg k1, if_pos k2, e.2.1]
    rw [if_neg k1, if_neg k2, if_neg k1, if_neg k2, ← e.2.1]
    by_cases k3 : k < S1 85 1
    · rw [if_pos k3, if_pos k3, e.2.2 k (by omega) k3]
    · rw [if_neg k3, if_neg k3]
  · obtain ⟨p1, rfl⟩ := p.1 c
    obtain ⟨q1, rfl⟩ := q.1 (by omega)
    exact ⟨q1.trans p1.symm, hS, lp_0 h⟩
abbrev PClist (S : rS) (s l i : Int) : rQ := fun r' S' => (v_X10_laneRefusal S s l ≠ 0 → r' = some (.inl (v_X10_laneRefusal S s l)) ∧ S' = S) ∧ (v_X10_laneRefusal S s l = 0 → ∃ T, Bd T ∧ FD S T ∧ Bd S' ∧ (((0 ≤ i ∧ i + T 85 1 ≤ S (224 + 2 * s) 2) → r' = some (.inl (T 85 1)) ∧ S' = mx_cp T 86 0 (225 + 2 * s) i (T 85 1)) ∧ (¬ (0 ≤ i ∧ i + T 85 1 ≤ S (224 + 2 * s) 2) → r' = some (.inl (-13)) ∧ S' = T)))
abbrev PRlist (S : rS) (s l i : Int) : rQ := fun r' S' => (lfM S s l ≠ 0 → r' = some (.inl (lfM S s l)) ∧ S' = S) ∧ (lfM S s l = 0 → ∃ T, Bd T ∧ FRR S T ∧ bst T = TOTF S ∧ Bd S' ∧ ((0 ≤ i ∧ i + T 232 25 ≤ S 243 s) → r' = some (.inl (T 232 25)) ∧ S' = mx_cp T 248 0 244 (24 * s + i) (T 232 25)) ∧ (¬ (0 ≤ i ∧ i + T 232 25 ≤ S 243 s) → r' = some (.inl (-13)) ∧ S' = T))
theorem g_list (hS : Bd S) {s l i : Int} (p : PClist S s l i r1 S1) : Bd S1 ∧ ∃ v, r1 = some (.inl v) := by
  by_cases c : v_X10_laneRefusal S s l = 0
  · obtain ⟨T, _, _, hB, q1, q2⟩ := p.2 c
    refine ⟨hB, ?_⟩
    by_cases z : 0 ≤ i ∧ i + T 85 1 ≤ S (224 + 2 * s) 2
    · exact ⟨_, (q1 z).1⟩
    · exact ⟨_, (q2 z).1⟩
  · rw [(p.1 c).2]; exact ⟨hS, _, (p.1 c).1⟩
theorem p_list (hS : Bd S) (h : IV S S) (hB1 : Bd S1) {s l i : Int} (p : PClist S s l i r1 S1) (q : PRlist S1 s l i r2 S2) : r2 = r1 ∧ Bd S2 ∧ LPP S S2 := by
  by_cases c : v_X10_laneRefusal S s l = 0
  · obtain ⟨T, t1, t2, _, p1, p2⟩ := p.2 c
    have lq := lrf c
    have cf : CFr S S1 := by
      by_cases z : 0 ≤ i ∧ i + T 85 1 ≤ S (224 + 2 * s) 2
      · rw [(p1 z).2]; exact fun a j w => by rw [cp_o (by omega)]; exact cf_FD t2 a j w
      · rw [(p2 z).2]; exact cf_FD t2
    have iv := iv_r hS h cf
    obtain ⟨T', u1, u2, u3, u4, q1, q2⟩ := q.2 (by rw [← lr_e iv s l]; exact c)
    have e := feast_e hS hB1 iv t2
    have e1 : T' 232 25 = T 85 1 := by rw [e.2.1, ← u3]; rfl
    have e2 : ∀ k : Int, 0 ≤ k → k < T 85 1 → T 86 k = T' 248 k := fun k k0 k1 => by rw [e.2.2 k k0 k1, ← u3]; rfl
    have ivT := iv_FD hB1 t2 u2 iv
    have sh := iv.2.2.2.2.2.2.2 s lq.1.1 lq.1.2
    have b24 : -1 ≤ S1 243 s ∧ S1 243 s ≤ 24 := hB1 243 s
    have en : S (224 + 2 * s) 2 = S1 243 s := by
      rcases sh with ⟨a, b⟩ | ⟨a, b, cc, d, w⟩
      · exact absurd a lq.2.2.1
      · exact cc
    by_cases z : 0 ≤ i ∧ i + T 85 1 ≤ S (224 + 2 * s) 2
    · have z' : 0 ≤ i ∧ i + T' 232 25 ≤ S1 243 s := by omega
      refine ⟨by rw [(q1 z').1, (p1 z).1, e1], u4, lp_w hS h cf ?_ u4 (fun _ => ?_)⟩
      · rw [(q1 z').2]; exact fun a j w => by rw [cp_o (by omega)]; exact rf_FRR u2 a j w
      · rw [(q1 z').2, (p1 z).2, e1]
        exact ls_sh ivT u1 lq.1 (by rw [FD_o t2 (by omega)]; exact lq.2.2.1) (by omega) e2
    · have z' : ¬ (0 ≤ i ∧ i + T' 232 25 ≤ S1 243 s) := by omega
      refine ⟨by rw [(q2 z').1, (p2 z).1], u4, lp_w hS h cf ?_ u4 (fun _ => ?_)⟩
      · rw [(q2 z').2]; exact rf_FRR u2
      · rw [(q2 z').2, (p2 z).2]; exact ivT
  · obtain ⟨p1, rfl⟩ := p.1 c
    obtain ⟨q1, rfl⟩ := q.1 (by rw [← lr_e h s l]; exact c)
    exact ⟨by rw [q1, p1, lr_e h s l], hS, lp_0 h⟩
theorem cf_FM {e n f g w : Int} {RR : Int → Int → Int} : CFr S (FM S e n RR f g w) := fun a j z => FM_o (by omega) (by omega) (by omega)
theorem rf_R5 {q b t wd v c : Int} {M : Int → Int} : RFr S (R5 S q b t wd v c M) := fun a j z => R5_o (by omega) (by omega)
theorem iv_FM (hB : Bd S1) {e n f g w : Int} {RR : Int → Int → Int} {q b t wd v c : Int} {M : Int → Int} (z : IV S S1) : IV (FM S e n RR f g w) (R5 S1 q b t wd v c M) := IV_cg z hB (fun a j z => FM_o (by omega) (by omega) (by omega)) (fun a j z => R5_o (by omega) (by omega))
abbrev PCfault (S : rS) : rQ := fun r' S' => ∃ (ans e n : Int) (RR : Int → Int → Int) (f g w : Int), Bd S' ∧ S' = FM S e n RR f g w ∧ r' = some (.inl ans) ∧ (-1 ≤ ans ∧ ans ≤ 200) ∧ pfl (S 2) (S 1 1) 20 0 0 (fun x j => S (5 + x) j) (S 25 0) (S 25 6) (S 25 10) = (ans, n, RR)
abbrev PRfault (S : rS) : rQ := fun r' S' => ∃ (ans c : Int) (M : Int → Int) (q b t wd v : Int), Bd S' ∧ S' = R5 S q b t wd v c M ∧ r' = some (.inl ans) ∧ (-1 ≤ ans ∧ ans ≤ 200) ∧ rdl (S 240) (S 232 9) 20 0 0 (mx_cp S 233 0 234 0 187 234) = (ans, c, M)
theorem g_fault (p : PCfault S r1 S1) : Bd S1 ∧ ∃ v, r1 = some (.inl v) := by
  obtain ⟨ans, e, n, RR, f, g, w, h1, _, h3, _⟩ := p
  exact ⟨h1, _, h3⟩
theorem p_fault (hS : Bd S) (h : IV S S) (hB1 : Bd S1) (p : PCfault S r1 S1) (q : PRfault S1 r2 S2) : r2 = r1 ∧ Bd S2 ∧ LPP S S2 := by
  obtain ⟨ans, e, n, RR, f, g, w, _, h2, h3, _, h5⟩ := p
  obtain ⟨ans', c, M, q', b, t, wd, v, g1, g2, g3, _, g5⟩ := q
  have cf : CFr S S1 := by rw [h2]; exact cf_FM
  have z := read_e hS hB1 (iv_r hS h cf) h5 g5
  refine ⟨by rw [h3, g3, z.1], g1, lp_w hS h cf (by rw [g2]; exact rf_R5) g1 (fun w => ?_)⟩
  rw [g2, h2]
  exact iv_FM (S := S) (S1 := FM S e n RR f g _) (by rw [← h2]; exact hB1) (by rw [← h2]; exact w)
theorem cf_PXC (hS : Bd S) {e n f g w : Int} {RR : Int → Int → Int} (hU : Bd (FM S e n RR f g w)) (hp : pfl (S 2) (S 1 1) 20 0 0 (fun x j => S (5 + x) j) (S 25 0) (S 25 6) (S 25 10) = (-1, n, RR)) : CFr S (PXC (FM S e n RR f g w) n) := by
  have hW := pfl_wf hS hp
  have e2 : FM S e n RR f g w 2 = S 2 := FM_2
  have tb' := tlf_bd (fun c c0 c1 => FM_row (by omega)) hU hW.2.2 (fun i i0 i1 => by rw [e2]; exact hW.1 i i0 i1) n.toNat (by omega)
  rw [show ((n.toNat : Nat) : Int) = n by omega] at tb'
  intro a j z
  unfold PXC
  rw [up_ne (by omega), fl_o (by omega), up_ne (by omega), up_ne (by omega), bgn_o (by omega), meas_o (by omega), tb'.2 a j (by omega)]
  exact cf_FM a j z
theorem vbd (hB : Bd S1) {V : rS} (hv : ∀ a j : Int, (a = 235 ∨ a = 236 ∨ a = 239 ∨ a = 232 ∧ (j = 5 ∨ j = 11)) → V a j = S1 a j) (h : Bd (begS V)) : Bd V := fun a j => by
  by_cases c : a = 235 ∨ a = 236 ∨ a = 239 ∨ a = 232 ∧ (j = 5 ∨ j = 11)
  · rw [hv a j c]; exact hB a j
  · rw [← begS_o (S := V) c]; exact h a j
abbrev PCparish (S : rS) : rQ := fun r' S' => ∃ (ans e n : Int) (RR : Int → Int → Int) (f g w : Int), pfl (S 2) (S 1 1) 20 0 0 (fun x j => S (5 + x) j) (S 25 0) (S 25 6) (S 25 10) = (ans, n, RR) ∧ (Bd S' ∧ Bd (FM S e n RR f g w)) ∧ ((ans ≠ -1 ∧ r' = some (.inl (-4)) ∧ S' = FM S e n RR f g w) ∨ (ans = -1 ∧ r' = some (.inl n) ∧ S' = PXC (FM S e n RR f g w) n))
abbrev PRparish (S : rS) : rQ := fun r' S' => ∃ (ans c : Int) (M : Int → Int) (q b t wd v : Int), rdl (S 240) (S 232 9) 20 0 0 (mx_cp S 233 0 234 0 187 234) = (ans, c, M) ∧ Bd S' ∧ ((ans ≠ -1 ∧ r' = some (.inl (-4)) ∧ S' = R5 S q b t wd v c M) ∨ (ans = -1 ∧ r' = some (.inl c) ∧ S' = begS (mx_up (mx_cp (R5 S q b t wd v c M) 234 0 233 0 187) 232 9 0)))
theorem g_parish (p : PCparish S r1 S1) : Bd S1 ∧ ∃ v, r1 = some (.inl v) := by
  obtain ⟨ans, e, n, RR, f, g, w, _, ⟨h1, _⟩, h3⟩ := p
  rcases h3 with h3 | h3
  · exact ⟨h1, _, h3.2.1⟩
  · exact ⟨h1, _, h3.2.1⟩
theorem p_parish (hS : Bd S) (h : IV S S) (hB1 : Bd S1) (p : PCparish S r1 S1) (q : PRparish S1 r2 S2) : r2 = r1 ∧ Bd S2 ∧ LPP S S2 := by
  obtain ⟨ans, e, n, RR, f, g, w, h5, ⟨_, hU⟩, h3⟩ := p
  obtain ⟨ans', c, M, q', b, t, wd, v, g5, g1, g3⟩ := q
  rcases h3 with ⟨h3, h4, h2⟩ | ⟨h3, h4, h2⟩
  · have cf : CFr S S1 := by rw [h2]; exact cf_FM
    have z := read_e hS hB1 (iv_r hS h cf) h5 g5
    rcases g3 with ⟨g3, g4, g2⟩ | ⟨g3, g4, g2⟩
    · refine ⟨by rw [h4, g4], g1, lp_w hS h cf (by rw [g2]; exact rf_R5) g1 (fun w => ?_)⟩
      rw [g2, h2]
      exact iv_FM (S := S) (S1 := FM S e n RR f g _) (by rw [← h2]; exact hB1) (by rw [← h2]; exact w)
    · exact absurd (z.1.trans g3) h3
  · have cf : CFr S S1 := by rw [h2]; exact cf_PXC hS hU (by rw [h5, h3])
    have iv := iv_r hS h cf
    have z := read_e hS hB1 iv h5 g5
    rcases g3 with ⟨g3, g4, g2⟩ | ⟨g3, g4, g2⟩
    · exact absurd (z.1.symm.trans h3) g3
    · obtain ⟨z1, ⟨z2, z3, z4, z5⟩, z6, z7, z8, z9⟩ := z.2 h3
      have z1 : c = n := z1.symm
      rw [z1] at g2 g4
      have hV : Bd (mx_up (mx_cp (R5 S1 q' b t wd v n M) 234 0 233 0 187) 232 9 0) := vbd hB1 (fun a j z => by rw [up_ne (by omega), cp_o (by omega), R5_o (by omega) (by omega)]) (by rw [← g2]; exact g1)
      refine ⟨by rw [h4, g4], g1, lp_w hS h cf ?_ g1 (fun _ => ?_)⟩
      · rw [g2]; exact fun a j z => by rw [begS_o (by omega), up_ne (by omega), cp_o (by omega), R5_o (by omega) (by omega)]
      · have k := s_parish hS hB1 iv hU (by rw [← g2]; exact g1) hV z2 z3 z4 z5 z6 z7 z8 z9
        rw [← g2, ← h2] at k
        exact k
end
