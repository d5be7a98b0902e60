/-! PARISH and FAULT agree -/
theorem meas_w {S : rS} {a b : Int} (h : 0 ≤ a ∧ a < 7) : meas S (52 + a) b = FWk (S 25 0) (wC2 S (S 25 6)) (S 25 0) a b := mtC_r h
theorem begS_w {S : rS} {a b : Int} (ha : 0 ≤ a ∧ a < 7) (hb : 0 ≤ b ∧ b < 7) : begS S 235 (7 * a + b) = FWk 7 (wM2 S (S 233 85)) 7 a b := by
  unfold begS
  rw [up_ne (by omega), up_ne (by omega), up_ne (by omega), up_ne (by omega), mtM_r ha hb rfl]
theorem begS_236 {S : rS} {j : Int} : begS S 236 j = bg0 S 236 j := by
  unfold begS
  rw [up_ne (by omega), up_ne (by omega), up_ne (by omega), up_ne (by omega), mtM_o (by omega)]
/-- ways: class and reference -/
theorem ways_e {U V : rS} (hV : Bd V) (h : PAr U (V 233)) (hG : GE (V 233)) : RWW (V 233 0) (FWk (U 25 0) (wC2 U (U 25 6)) (U 25 0)) (FWk 7 (wM2 V (V 233 85)) 7) := by
  have n0 : 0 ≤ V 233 0 ∧ V 233 0 ≤ 7 := hV 233 0
  have n6 : 0 ≤ V 233 85 ∧ V 233 85 ≤ 9 := hV 233 85
  have c := h.1
  rw [c.1, c.2.1]
  refine RW_F n0 (wok_M2 hV n6.2) ?_
  unfold wC2 wM2
  refine RW_g ?_ (fun k k0 k1 => ?_)
  · unfold wC1 wM1
    rw [c.1]
    refine ⟨fun x y x0 x1 y0 y1 => by rw [pr_i (b := 0) (by omega), pr_i (b := 0) (by omega)], fun x y x0 x1 y0 y1 => ?_⟩
    rw [pr_i (b := 0) (by omega), pr_i (b := 0) (by omega)]
    unfold IW
    rw [if_neg (by omega), if_neg (by omega)]
    exact ⟨rfl, rfl⟩
  · have q := h.2.2.1 k k0 k1
    have g := hG k k0 k1
    exact ⟨q.1, q.2.1, q.2.2, g.1, g.2⟩
theorem wM2_s {V : rS} (hV : Bd V) (hG : GE (V 233)) : ∀ x y : Int, 0 ≤ x → x < 7 → 0 ≤ y → y < 7 → wM2 V (V 233 85) x y ≤ 30 ∨ wM2 V (V 233 85) x y = 1000000 := by
  have n6 : 0 ≤ V 233 85 ∧ V 233 85 ≤ 9 := hV 233 85
  unfold wM2
  refine fo_ind (f := gts (fun kk => V 233 (86 + kk)) (fun kk => V 233 (95 + kk)) (fun kk => V 233 (104 + kk))) (a := wM1 V) (fun _ W => ∀ x y : Int, 0 ≤ x → x < 7 → 0 ≤ y → y < 7 → W x y ≤ 30 ∨ W x y = 1000000) (fun x y x0 x1 y0 y1 => ?_) (N := (V 233 85).toNat) (fun k W k0 k1 hW x y x0 x1 y0 y1 => ?_) _ (Nat.le_refl _)
  · unfold wM1
    rw [pr_i (b := 0) (by omega)]
    unfold IW; split <;> omega
  · have b := bdc_233_104 hV k
    have m := mx_min_b (W (V 233 (86 + k)) (V 233 (95 + k))) (V 233 (104 + k))
    rcases u2_c (u2 W (V 233 (86 + k)) (V 233 (95 + k)) (mx_min (W (V 233 (86 + k)) (V 233 (95 + k))) (V 233 (104 + k)))) (V 233 (95 + k)) (V 233 (86 + k)) (mx_min (W (V 233 (86 + k)) (V 233 (95 + k))) (V 233 (104 + k))) x y with e | e
    · show gts (fun kk => V 233 (86 + kk)) (fun kk => V 233 (95 + kk)) (fun kk => V 233 (104 + kk)) k W x y ≤ 30 ∨ gts (fun kk => V 233 (86 + kk)) (fun kk => V 233 (95 + kk)) (fun kk => V 233 (104 + kk)) k W x y = 1000000
      unfold gts
      rw [e.1]; omega
    · show gts (fun kk => V 233 (86 + kk)) (fun kk => V 233 (95 + kk)) (fun kk => V 233 (104 + kk)) k W x y ≤ 30 ∨ gts (fun kk => V 233 (86 + kk)) (fun kk => V 233 (95 + kk)) (fun kk => V 233 (104 + kk)) k W x y = 1000000
      unfold gts
      rw [e]
      rcases u2_c W (V 233 (86 + k)) (V 233 (95 + k)) (mx_min (W (V 233 (86 + k)) (V 233 (95 + k))) (V 233 (104 + k))) x y with e | e
      · rw [e.1]; omega
      · rw [e]; exact hW x y x0 x1 y0 y1
theorem PAr_M {A : rS} {M M' : Int → Int} (h : PAr A M) (hM : PB M) (hA : Bd A) (e : ∀ j, 0 ≤ j → j < 187 → M' j = M j) : PAr A M' := by
  obtain ⟨⟨a, b, c, d⟩, f, g, w⟩ := h
  have e0 := e 0 (by omega) (by omega)
  have e85 := e 85 (by omega) (by omega)
  have e113 := e 113 (by omega) (by omega)
  refine ⟨by rw [e0, e85, e113, e 186 (by omega) (by omega)]; exact ⟨a, b, c, d⟩, fun x x0 x1 => ?_, fun x x0 x1 => ?_, fun x x0 x1 => ?_⟩
  · rw [e0] at x1
    have q := f x x0 x1
    have l8 : 0 ≤ A 29 x ∧ A 29 x ≤ 8 := hA 29 x
    rw [e (1 + x) (by omega) (by omega), e (8 + x) (by omega) (by omega), e (15 + x) (by omega) (by omega), e (22 + x) (by omega) (by omega)]
    exact ⟨q.1, fun p p0 p1 => by rw [e (29 + 8 * x + p) (by omega) (by have := q.1.2.2.2; omega)]; exact q.2 p p0 p1⟩
  · rw [e85] at x1
    rw [e (86 + x) (by omega) (by omega), e (95 + x) (by omega) (by omega), e (104 + x) (by omega) (by omega)]
    exact g x x0 x1
  · rw [e113] at x1
    have q := w x x0 x1
    have l8 : 0 ≤ A 41 x ∧ A 41 x ≤ 8 := hA 41 x
    rw [e (114 + x) (by omega) (by omega)]
    exact ⟨q.1, fun p p0 p1 => by rw [e (122 + 8 * x + p) (by omega) (by have := q.1; omega)]; exact q.2 p p0 p1⟩
theorem GE_M {M M' : Int → Int} (h : GE M) (hM : PB M) (e : ∀ j, 0 ≤ j → j < 187 → M' j = M j) : GE M' := fun g g0 g1 => by
  rw [e 85 (by omega) (by omega)] at g1
  rw [e (86 + g) (by omega) (by omega), e (95 + g) (by omega) (by omega), e 0 (by omega) (by omega)]
  exact h g g0 g1
theorem LZ_M {M M' : Int → Int} (h : LZ M) (hM : PB M) (e : ∀ j, 0 ≤ j → j < 187 → M' j = M j) : LZ M' := fun f f0 f1 => by
  rw [e 0 (by omega) (by omega)] at f0
  rw [e (22 + f) (by omega) (by omega)]
  exact h f f0 f1
theorem CH_M {M M' : Int → Int} (h : CHp M) (hM : PB M) (e : ∀ j, 0 ≤ j → j < 187 → M' j = M j) : CHp M' := fun f f0 f1 => by
  rw [e 0 (by omega) (by omega)] at f1
  rw [e (15 + f) (by omega) (by omega)]
  exact h f f0 f1
/-- both texts read: one outcome -/
theorem read_e {A B : rS} (hA : Bd A) (hB : Bd B) (h : IV A B) {a1 a2 n1 n2 : Int} {RR : Int → Int → Int} {M : Int → Int} (h1 : pfl (A 2) (A 1 1) 20 0 0 (fun x j => A (5 + x) j) (A 25 0) (A 25 6) (A 25 10) = (a1, n1, RR)) (h2 : rdl (B 240) (B 232 9) 20 0 0 (mx_cp B 233 0 234 0 187 234) = (a2, n2, M)) :
    a1 = a2 ∧ (a1 = -1 → n1 = n2 ∧ (M = fo (fun i X => apR (A 2) (RR i) X) (mx_cp B 233 0 234 0 187 234) n1.toNat ∧ (∀ i, 0 ≤ i → i < n1 → WFR (A 2) (RR i)) ∧ (0 ≤ n1 ∧ n1 ≤ 20) ∧ ∀ i, 0 ≤ i → i ≤ n1 → PB (fo (fun i X => apR (A 2) (RR i) X) (mx_cp B 233 0 234 0 187 234) i.toNat)) ∧ PB M ∧ GE M ∧ LZ M ∧ CHp M) := by
  have t := h.1
  have c := iv_n h
  have b9 : 0 ≤ B 232 9 ∧ B 232 9 ≤ 200 := hB 232 9
  have eT : A 2 = B 240 := funext t.2
  have eM : ∀ j, 0 ≤ j → j < 187 → mx_cp B 233 0 234 0 187 234 j = B 233 j := fun j j0 j1 => by rw [cp_i (by omega)]; exact congrArg (B 233) (by omega)
  have hPB := PBB hB
  have e0 := eM 0 (by omega) (by omega)
  have e85 := eM 85 (by omega) (by omega)
  have e113 := eM 113 (by omega) (by omega)
  have hPB0 : PB (mx_cp B 233 0 234 0 187 234) := by unfold PB; rw [e0, e85, e113]; exact hPB
  have q := pfl_rdl (T := A 2) (M0 := mx_cp B 233 0 234 0 187 234) (n := A 1 1) (by rw [t.1]; exact b9.2) 20 0 0 (fun x j => A (5 + x) j) (mx_cp B 233 0 234 0 187 234) rfl (by omega) (by omega) (by omega) hPB0 rfl (fun i i0 i1 => absurd i1 (by omega)) (fun i i0 i1 => by rw [show i = 0 by omega]; exact hPB0)
  rw [e0, e85, e113, ← c.1, ← c.2.1, ← c.2.2.1, h1, eT, t.1, h2] at q
  rw [eT]
  refine ⟨q.1, fun z => ⟨q.2.1, ?_⟩⟩
  have q := q.2.2 z
  exact ⟨⟨q.1.1, q.1.2.1, ⟨q.1.2.2.1, q.1.2.2.2.1⟩, q.1.2.2.2.2⟩, q.2.1, q.2.2.1 (GE_M h.2.1.2.1 hPB eM), q.2.2.2.1 (LZ_M h.2.1.2.2.1 hPB eM), q.2.2.2.2 (CH_M h.2.1.2.2.2 hPB eM)⟩
/-- all clauses told -/
theorem tells_r {U : rS} {M0 : Int → Int} {n : Int} {RR : Int → Int → Int} (hrow : ∀ c, 0 ≤ c → c < n → U (5 + c) = RR c) (hU : Bd U) (hn : n ≤ 20) (h : PAr U M0) (hW : ∀ i, 0 ≤ i → i < n → WFR (U 2) (RR i)) (hP : ∀ i, 0 ≤ i → i ≤ n → PB (fo (fun i X => apR (U 2) (RR i) X) M0 i.toNat)) (hBd : ∀ c : Int, 0 ≤ c → c ≤ n → Bd (tlf U c) ∧ ∀ a j : Int, ¬ (25 ≤ a ∧ a ≤ 50) → tlf U c a j = U a j) :
    ∀ m : Nat, (m : Int) ≤ n → PAr (tlf U m) (fo (fun i X => apR (U 2) (RR i) X) M0 m) := by
  intro m
  induction m with
  | zero => intro _; exact h
  | succ m ih =>
    intro hm
    have b := hBd m (by omega) (by omega)
    have e2 : tlf U m 2 = U 2 := funext fun j => b.2 2 j (by omega)
    have e5 : tlf U m (5 + (m : Int)) = RR m := by rw [← hrow m (by omega) (by omega)]; exact funext fun j => b.2 _ j (by omega)
    have p1 := hP m (by omega) (by omega)
    have p2 := hP ((m : Int) + 1) (by omega) (by omega)
    rw [fo_s (by omega), show ((m : Nat) : Int).toNat = m by omega] at p2
    rw [show ((m : Nat) : Int).toNat = m by omega] at p1
    rw [show ((m + 1 : Nat) : Int) = (m : Int) + 1 from rfl, tlf_s (by omega)]
    have q := tell_r (S := tlf U m) (c := m) b.1 (by omega) (ih (by omega)) p1 (by rw [e2, e5]; exact p2) (by rw [e2, e5]; exact hW m (by omega) (by omega))
    rw [e2, e5] at q
    exact q
theorem tell_b {S : rS} {c : Int} (hS : Bd S) (hc : 0 ≤ c ∧ c < 20) (hW : WFR (S 2) (S (5 + c))) : Bd (w_X3_tell S c).2 ∧ ∀ a j : Int, ¬ (25 ≤ a ∧ a ≤ 50) → (w_X3_tell S c).2 a j = S a j := by
  have r0 := bdo_5_0 hS hc
  have r1 := bdo_5_1 hS hc
  have r2 := bdo_5_2 hS hc
  have r3 := bdo_5_3 hS hc
  have r5 := bdo_5_5 hS hc
  have n0 : 0 ≤ S 25 0 ∧ S 25 0 ≤ 7 := hS 25 0
  have n6 : 0 ≤ S 25 6 ∧ S 25 6 ≤ 9 := hS 25 6
  have n10 : 0 ≤ S 25 10 ∧ S 25 10 ≤ 8 := hS 25 10
  have z : (0 : Int) ≤ 0 := Int.le_refl _
  unfold w_X3_tell
  by_cases c4 : S (5 + c) 0 = 4
  · rw [if_pos c4]
    exact ⟨Bd_up (Bd_up (Bd_up (Bd_up hS z (show (0 : Int) ≤ 7 by omega)) z (show (0 : Int) ≤ 9 by omega)) z (show (0 : Int) ≤ 8 by omega)) (show (0 : Int) ≤ 60 by omega) (show (60 : Int) ≤ 99 by omega), fun a j ha => by show mx_up (mx_up (mx_up (mx_up S 25 0 0) 25 6 0) 25 10 0) 25 13 60 a j = S a j; rw [up_ne (by omega), up_ne (by omega), up_ne (by omega), up_ne (by omega)]⟩
  rw [if_neg c4]
  by_cases c5 : S (5 + c) 0 = 5
  · rw [if_pos c5]
    have w := hW.2.1 c5
    unfold w_X3_tellGate
    by_cases k : S 25 6 < 9
    · rw [if_pos k]
      exact ⟨Bd_up (Bd_up (Bd_up (Bd_up hS r1.1 w.1) r2.1 w.2) r3.1 r3.2) (show (0 : Int) ≤ S 25 6 + 1 by omega) (show S 25 6 + 1 ≤ (9 : Int) by omega), fun a j ha => by show mx_up (mx_up (mx_up (mx_up S 38 (S 25 6) (S (5 + c) 1)) 39 (S 25 6) (S (5 + c) 2)) 40 (S 25 6) (S (5 + c) 3)) 25 6 ((S 25 6) + 1) a j = S a j; rw [up_ne (by omega), up_ne (by omega), up_ne (by omega), up_ne (by omega)]⟩
    · rw [if_neg k]; exact ⟨hS, fun _ _ _ => rfl⟩
  rw [if_neg c5]
  by_cases c6 : S (5 + c) 0 = 6
  · rw [if_pos c6]
    have hL := LN_r hW (Or.inr c6)
    unfold w_X3_tellWord
    by_cases k : S 25 10 < 8
    · rw [if_pos k]
      exact ⟨Bd_up (Bd_spl (Bd_up hS r5.1 r5.2) (fun j => bdl_43 (by omega)) (LN_cg (funext fun j => up_ne (by omega)) (funext fun j => up_ne (by omega)) hL)) (show (0 : Int) ≤ S 25 10 + 1 by omega) (show S 25 10 + 1 ≤ (8 : Int) by omega), fun a j ha => by show mx_up (spl (mx_up S 41 (S 25 10) (S (5 + c) 5)) (43 + (S 25 10)) (5 + c)) 25 10 ((S 25 10) + 1) a j = S a j; rw [up_ne (by omega), spl_o (by omega), up_ne (by omega)]⟩
    · rw [if_neg k]; exact ⟨hS, fun _ _ _ => rfl⟩
  rw [if_neg c6]
  by_cases c7 : S (5 + c) 0 = 7
  · rw [if_pos c7]
    exact ⟨Bd_up hS r1.1 r1.2, fun a j ha => up_ne (by omega)⟩
  rw [if_neg c7]
  have c3 : S (5 + c) 0 ≤ 3 := by omega
  have hL := LN_r hW (Or.inl c3)
  have w := hW.1 c3
  unfold w_X3_tellField
  by_cases k : S 25 0 < 7
  · rw [if_pos k]
    exact ⟨Bd_up (Bd_spl (Bd_up (Bd_up (Bd_up (Bd_up hS r0.1 c3) r1.1 w.1) r2.1 r2.2) r5.1 r5.2) (fun j => bdl_31 (by omega)) (LN_cg (funext fun j => by rw [up_ne (by omega), up_ne (by omega), up_ne (by omega), up_ne (by omega)]) (funext fun j => by rw [up_ne (by omega), up_ne (by omega), up_ne (by omega), up_ne (by omega)]) hL)) (show (0 : Int) ≤ S 25 0 + 1 by omega) (show S 25 0 + 1 ≤ (7 : Int) by omega), fun a j ha => by
      show mx_up (spl (mx_up (mx_up (mx_up (mx_up S 26 (S 25 0) (S (5 + c) 0)) 27 (S 25 0) (S (5 + c) 1)) 28 (S 25 0) (S (5 + c) 2)) 29 (S 25 0) (S (5 + c) 5)) (31 + (S 25 0)) (5 + c)) 25 0 ((S 25 0) + 1) a j = S a j
      rw [up_ne (by omega), spl_o (by omega), up_ne (by omega), up_ne (by omega), up_ne (by omega), up_ne (by omega)]⟩
  · rw [if_neg k]; exact ⟨hS, fun _ _ _ => rfl⟩
theorem tlf_bd {U : rS} {n : Int} {RR : Int → Int → Int} (hrow : ∀ c, 0 ≤ c → c < n → U (5 + c) = RR c) (hU : Bd U) (hn : n ≤ 20) (hW : ∀ i, 0 ≤ i → i < n → WFR (U 2) (RR i)) : ∀ m : Nat, (m : Int) ≤ n → Bd (tlf U m) ∧ ∀ a j : Int, ¬ (25 ≤ a ∧ a ≤ 50) → tlf U m a j = U a j := by
  intro m
  induction m with
  | zero => intro _; exact ⟨hU, fun _ _ _ => rfl⟩
  | succ m ih =>
    intro hm
    have b := ih (by omega)
    have e2 : tlf U m 2 = U 2 := funext fun j => b.2 2 j (by omega)
    have e5 : tlf U m (5 + (m : Int)) = RR m := by rw [← hrow m (by omega) (by omega)]; exact funext fun j => b.2 _ j (by omega)
    rw [show ((m + 1 : Nat) : Int) = (m : Int) + 1 from rfl, tlf_s (by omega)]
    have q := tell_b (S := tlf U m) (c := m) b.1 (by omega) (by rw [e2, e5]; exact hW m (by omega) (by omega))
    exact ⟨q.1, fun a j ha => (q.2 a j ha).trans (b.2 a j ha)⟩
theorem s_parish {A B : rS} (hA : Bd A) (hB : Bd B) (h : IV A B) {n e f g w q b t wd v : Int} {RR : Int → Int → Int} {M : Int → Int} (hU : Bd (FM A e n RR f g w)) (hB' : Bd (begS (mx_up (mx_cp (R5 B q b t wd v n M) 234 0 233 0 187) 232 9 0))) (hV : Bd (mx_up (mx_cp (R5 B q b t wd v n M) 234 0 233 0 187) 232 9 0))
    (hM : M = fo (fun i X => apR (A 2) (RR i) X) (mx_cp B 233 0 234 0 187 234) n.toNat) (hW : ∀ i, 0 ≤ i → i < n → WFR (A 2) (RR i)) (hn : 0 ≤ n ∧ n ≤ 20) (hP : ∀ i, 0 ≤ i → i ≤ n → PB (fo (fun i X => apR (A 2) (RR i) X) (mx_cp B 233 0 234 0 187 234) i.toNat)) (hPM : PB M) (hG : GE M) (hL : LZ M) (hC : CHp M) :
    IV (PXC (FM A e n RR f g w) n) (begS (mx_up (mx_cp (R5 B q b t wd v n M) 234 0 233 0 187) 232 9 0)) := by
  generalize hUU : FM A e n RR f g w = U at *
  generalize hVV : mx_up (mx_cp (R5 B q b t wd v n M) 234 0 233 0 187) 232 9 0 = V at *
  have hrow : ∀ c, 0 ≤ c → c < n → U (5 + c) = RR c := fun c c0 c1 => by rw [← hUU]; exact FM_row (by omega)
  have e2 : U 2 = A 2 := by rw [← hUU]; exact FM_2
  have uo : ∀ a j : Int, ¬ (a = 1 ∧ (j = 2 ∨ j = 3 ∨ j = 4)) → ¬ a = 3 → ¬ (5 ≤ a ∧ a < 25) → U a j = A a j := fun a j z1 z2 z3 => by rw [← hUU]; exact FM_o z1 z2 z3
  have hW' : ∀ i, 0 ≤ i → i < n → WFR (U 2) (RR i) := fun i i0 i1 => by rw [e2]; exact hW i i0 i1
  have tb' := tlf_bd hrow hU hn.2 hW'
  have tbn := tb' n.toNat (by omega)
  rw [show ((n.toNat : Nat) : Int) = n by omega] at tbn
  have eM0 : ∀ j, 0 ≤ j → j < 187 → mx_cp B 233 0 234 0 187 234 j = B 233 j := fun j j0 j1 => by rw [cp_i (by omega)]; exact congrArg (B 233) (by omega)
  have hP0 : PAr U (mx_cp B 233 0 234 0 187 234) := PAr_M (PA_cg h.2.1.1 (PBB hB) (fun a j z => uo a j (by omega) (by omega) (by omega))) (PBB hB) hU eM0
  have tr := tells_r hrow hU hn.2 hP0 hW' (fun i i0 i1 => by rw [e2]; exact hP i i0 i1) (fun c c0 c1 => by have z := tb' c.toNat (by omega); rw [show ((c.toNat : Nat) : Int) = c by omega] at z; exact z) n.toNat (by omega)
  rw [show ((n.toNat : Nat) : Int) = n by omega, e2, ← hM] at tr
  have vM : ∀ j, 0 ≤ j → j < 187 → V 233 j = M j := fun j j0 j1 => by
    rw [← hVV, up_ne (by omega), cp_i (by omega)]
    show R5 B q b t wd v n M 234 (0 + (j - 0)) = M j
    rw [show 0 + (j - 0) = j by omega]; rfl
  have vo : ∀ a j : Int, ¬ a = 233 → ¬ a = 234 → ¬ (a = 232 ∧ 15 ≤ j ∧ j ≤ 20) → ¬ (a = 232 ∧ j = 9) → V a j = B a j := fun a j z1 z2 z3 z4 => by rw [← hVV, up_ne (by omega), cp_o (by omega), R5_o z2 z3]
  have trV : PAr (tlf U n) (V 233) := PAr_M tr hPM tbn.1 vM
  have gV := GE_M hG hPM vM
  have lV := LZ_M hL hPM vM
  have cV := CH_M hC hPM vM
  have n0 : 0 ≤ V 233 0 ∧ V 233 0 ≤ 7 := hV 233 0
  have n6 : 0 ≤ V 233 85 ∧ V 233 85 ≤ 9 := hV 233 85
  have ww := ways_e hV trV gV
  have f233 : begS V 233 = V 233 := funext fun j => begS_o (by omega)
  have px : ∀ a j : Int, ¬ (a = 1 ∧ j = 1) → ¬ a = 80 → ¬ (a = 81 ∧ j = 0) → ¬ (a = 61 ∧ j = 0) → ¬ (a = 59 ∨ a = 60) → ¬ (52 ≤ a ∧ a < 59) → PXC U n a j = tlf U n a j := fun a j z1 z2 z3 z4 z5 z6 => by
    unfold PXC
    rw [up_ne z1, fl_o z2, up_ne z3, up_ne z4, bgn_o z5, meas_o z6]
  have tn := trV.1
  refine ⟨⟨?_, fun j => ?_⟩, ?_, ?_, ?_, ?_, ?_, ?_, ?_⟩
  · rw [show begS V 232 9 = V 232 9 from begS_o (by omega), ← hVV, up_eq]; unfold PXC; rw [up_eq]
  · rw [px 2 j (by omega) (by omega) (by omega) (by omega) (by omega) (by omega), tbn.2 2 j (by omega), begS_o (by omega), vo 240 j (by omega) (by omega) (by omega) (by omega), e2]; exact h.1.2 j
  · rw [f233]
    exact ⟨PA_cg trV (PBB hV) (fun a j z => px a j (by omega) (by omega) (by omega) (by omega) (by omega) (by omega)), gV, lV, cV⟩
  · rw [f233]
    have wv := wok_M2 hV n6.2
    refine ⟨fun a b a0 a1 b0 b1 => ?_, fun a b c a0 a1 b0 b1 c0 c1 => ?_, fun a b a0 a1 b0 b1 => ?_⟩
    · rw [begS_w (by omega) (by omega), ← ww.1 a b a0 a1 b0 b1, ← meas_w (by omega)]
      unfold PXC
      rw [up_ne (by omega), fl_o (by omega), up_ne (by omega), up_ne (by omega), bgn_o (by omega)]
    · rw [begS_w (by omega) (by omega), begS_w (by omega) (by omega), begS_w (by omega) (by omega)]
      exact FW_tri wv 7 (by omega) c a b c0 (by omega) a0 (by omega) b0 (by omega)
    · rw [begS_w (by omega) (by omega)]
      exact FW_sm wv (wM2_s hV gV) 7 (by omega) a b a0 (by omega) b0 (by omega)
  · unfold NWr
    rw [f233]
    have bo : ∀ j : Int, 7 ≤ j → j < 12 → begS V 236 j = 0 := fun j j0 j1 => by
      rw [begS_236]; unfold bg0; rw [fl_i (by omega), if_neg (by omega)]
    have bl : ∀ j : Int, 0 ≤ j → j < 7 → begS V 236 j = mx_shl 1 (V 233 (22 + j)) - 1 := fun j j0 j1 => by
      rw [begS_236]; unfold bg0; rw [fl_i (by omega), if_pos (by omega)]
    have mt25 : meas (tlf U n) 25 0 = V 233 0 := by rw [meas_o (by omega)]; exact tn.1
    refine ⟨fun x x0 x1 => ?_, fun x x0 x1 x2 => ?_, ⟨?_, ?_, ?_, ?_, ?_⟩, ?_⟩
    · rw [bl x x0 (by omega)]
      show PXC U n 60 x = _
      unfold PXC bgn
      rw [up_ne (by omega), fl_o (by omega), up_ne (by omega), up_ne (by omega), up_ne (by omega), up_ne (by omega), up_ne (by omega), up_ne (by omega), up_ne (by omega), fl_i (by rw [mt25]; omega)]
      show mx_shl 1 (meas (tlf U n) 29 x) - 1 = _
      rw [meas_o (by omega), (trV.2.1 x x0 x1).1.2.2.2]
    · rw [bl x x0 x2, lV x x1 x2]; decide
    · rw [bo 9 (by omega) (by omega)]; unfold PXC bgn; rw [up_ne (by omega), fl_o (by omega), up_ne (by omega), up_ne (by omega), up_ne (by omega), up_ne (by omega), up_ne (by omega), up_ne (by omega), up_eq]
    · rw [bo 7 (by omega) (by omega)]; unfold PXC bgn; rw [up_ne (by omega), fl_o (by omega), up_ne (by omega), up_ne (by omega), up_ne (by omega), up_ne (by omega), up_ne (by omega), up_eq]
    · rw [bo 8 (by omega) (by omega)]; unfold PXC bgn; rw [up_ne (by omega), fl_o (by omega), up_ne (by omega), up_ne (by omega), up_ne (by omega), up_ne (by omega), up_eq]
    · rw [bo 11 (by omega) (by omega)]; unfold PXC bgn; rw [up_ne (by omega), fl_o (by omega), up_ne (by omega), up_ne (by omega), up_ne (by omega), up_eq]
    · rw [bo 10 (by omega) (by omega)]; unfold PXC bgn; rw [up_ne (by omega), fl_o (by omega), up_ne (by omega), up_ne (by omega), up_eq]
    · rw [bo 11 (by omega) (by omega)]; omega
  · have e5 : begS V 232 5 = 0 := by unfold begS; rw [up_ne (by omega), up_ne (by omega), up_ne (by omega), up_eq]
    refine ⟨?_, fun k k0 k1 => by rw [e5] at k1; omega⟩
    rw [e5]; unfold PXC; rw [up_ne (by omega), fl_o (by omega), up_ne (by omega), up_eq]
  · intro k k0 k1
    have e80 : PXC U n 80 k = 0 := by unfold PXC; rw [up_ne (by omega), fl_i (by omega)]
    have e239 : begS V 239 k = 0 := by
      unfold begS
      rw [up_ne (by omega)]
      rcases (show k = 0 ∨ k = 1 by omega) with z | z <;> subst z
      · rw [up_ne (by omega), up_eq]
      · rw [up_eq]
    exact ⟨by rw [e80, e239], fun z => absurd e80 z⟩
  · have e11 : begS V 232 11 = 0 := by unfold begS; rw [up_eq]
    refine ⟨?_, fun s s0 s1 => by rw [e11] at s1; omega⟩
    rw [e11]; unfold PXC; rw [up_ne (by omega), fl_o (by omega), up_eq]
  · exact SH_cg h.2.2.2.2.2.2.2 (fun a j z => by rw [px a j (by omega) (by omega) (by omega) (by omega) (by omega) (by omega), tbn.2 a j (by omega), uo a j (by omega) (by omega) (by omega)]) (fun a j z => by rw [begS_o (by omega), vo a j (by omega) (by omega) (by omega) (by omega)])
