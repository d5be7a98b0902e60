theorem del_n : ∀ g : Fin 128, ∀ k : Fin 7, bt g.val k.val = true → 0 ≤ mx_and g.val (mx_xor (mx_shl 1 k.val) (-1)) ∧ mx_and g.val (mx_xor (mx_shl 1 k.val) (-1)) < g.val := by decide +kernel
theorem del_b {g k : Int} (hg : 0 ≤ g ∧ g < 128) (hk : 0 ≤ k ∧ k < 7) (h : tb g k) : 0 ≤ mx_and g (mx_xor (mx_shl 1 k) (-1)) ∧ mx_and g (mx_xor (mx_shl 1 k) (-1)) < g := by
  obtain ⟨g', rfl⟩ := Int.eq_ofNat_of_zero_le hg.1
  obtain ⟨k', rfl⟩ := Int.eq_ofNat_of_zero_le hk.1
  exact del_n ⟨g', by omega⟩ ⟨k', by omega⟩ h
/-- what a row's number rests on -/
theorem ffr_cg {S S' : rS} {g a : Int} (hn : 0 ≤ S 25 0 ∧ S 25 0 ≤ 7) (hg : 0 ≤ g ∧ g < 128) (ha : 0 ≤ a ∧ a < 7) (h0 : S' 25 0 = S 25 0) (h1 : ∀ k, 0 ≤ k → k < 7 → S' (52 + a) k = S (52 + a) k) (h2 : ∀ k, 0 ≤ k → k < 7 → S' 88 k = S 88 k) (h3 : ∀ x k, 0 ≤ x → x < g → 0 ≤ k → k < 7 → S' (90 + x) k = S (90 + x) k) : ffr S' g a = ffr S g a := by
  unfold ffr
  rw [h0]
  refine fo_cg _ (fun k s k0 k1 => ?_)
  by_cases hb : tb g k
  · have q := del_b hg (k := k) (by omega) hb
    rw [if_pos hb, if_pos hb, h1 k k0 (by omega), h2 k k0 (by omega), h3 _ k q.1 q.2 k0 (by omega)]
  · rw [if_neg hb, if_neg hb]
theorem ffr_up {T : rS} {g a x f v : Int} (hn : 0 ≤ T 25 0 ∧ T 25 0 ≤ 7) (hg : 0 ≤ g ∧ g ≤ x) (hx : x < 128) (ha : 0 ≤ a ∧ a < 7) : ffr (mx_up T (90 + x) f v) g a = ffr T g a :=
  ffr_cg hn (by omega) ha (up_ne (by omega)) (fun k _ _ => up_ne (by omega)) (fun k _ _ => up_ne (by omega)) (fun y k _ _ _ _ => up_ne (by omega))
/-- all rows below x stand -/
def FX (S T : rS) (x : Int) : Prop := ∀ g k, 0 ≤ g → g < x → mx_and g (mx_xor (S 85 3) (-1)) = 0 → 0 ≤ k → k < S 25 0 → tb (S 85 3) k → ¬ tb g k → T (90 + g) k = ffr T g k
def FR (S T : rS) : Prop := Bd T ∧ ∀ a j : Int, ¬ (90 ≤ a ∧ a < 218) → T a j = S a j
theorem FX_up {S T : rS} {x f : Int} (hT : FR S T) (hB : Bd S) (hx : 0 ≤ x ∧ x < 128) (h : FX S T x) : FX S (mx_up T (90 + x) f (ffr T x f)) x := by
  intro g k g0 g1 g2 k0 k1 k2 k3
  have b0 : 0 ≤ S 25 0 ∧ S 25 0 ≤ 7 := hB 25 0
  have e0 : T 25 0 = S 25 0 := hT.2 25 0 (by omega)
  rw [up_ne (by omega), ffr_up (by omega) (by omega) hx.2 (by omega)]
  exact h g k g0 g1 g2 k0 k1 k2 k3
theorem FR_up {S T : rS} {x f : Int} (hT : FR S T) (hB : Bd S) (hx : 0 ≤ x ∧ x < 128) (hf : 0 ≤ f ∧ f < 7) : FR S (mx_up T (90 + x) f (ffr T x f)) := by
  have b := bdl_90 (j := f) hx
  have q := ffr_b hT.1 (g := x) (a := f) hx hf
  exact ⟨Bd_up hT.1 (by omega) (by omega), fun a j h => (up_ne (by omega)).trans (hT.2 a j h)⟩
/-- row x up to f -/
def FY (S T : rS) (x f : Int) : Prop := ∀ k, 0 ≤ k → k < f → tb (S 85 3) k → ¬ tb x k → T (90 + x) k = ffr T x k
theorem FY_t {S T : rS} {x f : Int} (hT : FR S T) (hB : Bd S) (hx : 0 ≤ x ∧ x < 128) (hf : 0 ≤ f ∧ f < S 25 0) (h : FY S T x f) : FY S (mx_up T (90 + x) f (ffr T x f)) x (f + 1) := by
  intro k k0 k1 k2 k3
  have b0 : 0 ≤ S 25 0 ∧ S 25 0 ≤ 7 := hB 25 0
  have e0 : T 25 0 = S 25 0 := hT.2 25 0 (by omega)
  rw [ffr_up (by omega) (by omega) hx.2 (by omega)]
  by_cases e : k = f
  · subst e; exact up_eq
  · rw [up_ne (by omega)]; exact h k k0 (by omega) k2 k3
theorem FX_s {S T : rS} {x f : Int} (hf : S 25 0 ≤ f) (h : FX S T x) (hy : FY S T x f) : FX S T (x + 1) := by
  intro g k g0 g1 g2 k0 k1 k2 k3
  by_cases e : g = x
  · subst e; exact hy k k0 (by omega) k2 k3
  · exact h g k g0 (by omega) g2 k0 k1 k2 k3
theorem FX_n {S T : rS} {x : Int} (hn : ¬ mx_and x (mx_xor (S 85 3) (-1)) = 0) (h : FX S T x) : FX S T (x + 1) := by
  intro g k g0 g1 g2 k0 k1 k2 k3
  by_cases e : g = x
  · subst e; exact absurd g2 hn
  · exact h g k g0 (by omega) g2 k0 k1 k2 k3
theorem c_X9_fillFewest {S : rS} (hB : Bd S) : CS 2 185 [.inr (.inr 85), .inr (.inr 25)] S (fun r' S' => r' = none ∧ FR S S' ∧ FX S S' (S 85 3 + 1)) := by
  refine RS.beg (ls := [some (.inr (.inr 85)), some (.inr (.inr 25)), none, none]) rfl rfl rfl rfl rfl ?_
  have b0 : 0 ≤ S 25 0 ∧ S 25 0 ≤ 7 := hB 25 0
  have b85 : 0 ≤ S 85 3 ∧ S 85 3 ≤ 127 := hB 85 3
  refine r_const (pc' := 1) rfl rfl ?_
  refine r_istore (pc' := 2) (ls' := [some (.inr (.inr 85)), some (.inr (.inr 25)), some (.inl 0), none]) rfl rfl rfl rfl ?_
  refine r_while (α := Int × rS) (fun z' => [some (.inr (.inr 85)), some (.inr (.inr 25)), some (.inl z'.1), none]) (fun z' => z'.2) (fun z' => (0 ≤ z'.1 ∧ z'.1 ≤ S 85 3 + 1) ∧ (FR S z'.2) ∧ (FX S z'.2 z'.1)) (fun z' => (S 85 3 + 1 - z'.1).toNat) ?_ (0, S) (show (0 ≤ (0 : Int) ∧ (0 : Int) ≤ S 85 3 + 1) ∧ (FR S S) ∧ (FX S S (0 : Int)) from by exact ⟨by omega, ⟨hB, fun _ _ _ => rfl⟩, fun g k g0 g1 => absurd g1 (by omega)⟩)
  rintro ⟨x, T⟩ hI' ih2
  have hI' : (0 ≤ x ∧ x ≤ S 85 3 + 1) ∧ (FR S T) ∧ (FX S T x) := hI'
  obtain ⟨i1, hT, hX⟩ := hI'
  show RS _ _ _ _ [some (.inr (.inr 85)), some (.inr (.inr 25)), some (.inl x), none] [] T
  have b1 : 0 ≤ S 85 3 ∧ S 85 3 ≤ 127 := hB 85 3
  refine r_iload (pc' := 3) rfl rfl rfl ?_
  refine r_aload (pc' := 4) rfl rfl rfl ?_
  refine r_getv (pc' := 7) (v := (S 85 3)) rfl rfl (Or.inl rfl) rfl (hT.2 85 3 (by omega)) ?_
  by_cases h2 : (S 85 3) < x
  · refine r_icmp_gt1 (pc' := 78) rfl rfl (by omega) (by omega) ?_
    refine q_vret rfl rfl rfl ?_
    exact ⟨rfl, hT, by rw [show S 85 3 + 1 = x by omega]; exact hX⟩
  · refine r_icmp_gt0 (pc' := 10) rfl rfl (by omega) (by omega) ?_
    refine r_aload (pc' := 11) rfl rfl rfl ?_
    refine r_iload (pc' := 12) rfl rfl rfl ?_
    have b3 : 0 ≤ T 85 3 ∧ T 85 3 ≤ 127 := hT.1 85 3
    by_cases h4 : mx_and x (mx_xor (T 85 3) (-1)) = 0
    · skip
      refine q_callE (pc' := 15) (w := some (.inl 1)) (S2 := T) (st' := [.inl 1]) rfl rfl rfl (bi_pos h4 (c_X9_isOpen (g := x) (S := T) hT.1 (show 0 ≤ x ∧ x < 128 from by omega))) (by decide) rfl rfl (Nat.le_of_ble_eq_true rfl) (fun _ _ => ⟨_, _, rfl, rfl⟩) rfl rfl ?_
      refine r_if_ne1 (pc' := 21) rfl rfl (by decide) (by decide) ?_
      refine r_const (pc' := 22) rfl rfl ?_
      refine r_istore (pc' := 23) (ls' := [some (.inr (.inr 85)), some (.inr (.inr 25)), some (.inl x), some (.inl 0)]) rfl rfl rfl rfl ?_
      refine r_while (α := Int × rS) (fun z' => [some (.inr (.inr 85)), some (.inr (.inr 25)), some (.inl x), some (.inl z'.1)]) (fun z' => z'.2) (fun z' => (0 ≤ z'.1 ∧ z'.1 ≤ S 25 0) ∧ (FR S z'.2) ∧ (FX S z'.2 x) ∧ (FY S z'.2 x z'.1)) (fun z' => (S 25 0 - z'.1).toNat) ?_ (0, T) (show (0 ≤ (0 : Int) ∧ (0 : Int) ≤ S 25 0) ∧ (FR S T) ∧ (FX S T x) ∧ (FY S T x (0 : Int)) from by exact ⟨by omega, hT, hX, fun k k0 k1 => absurd k1 (by omega)⟩)
      rintro ⟨f, U⟩ hI' ih23
      have hI' : (0 ≤ f ∧ f ≤ S 25 0) ∧ (FR S U) ∧ (FX S U x) ∧ (FY S U x f) := hI'
      obtain ⟨i5, hU, hZ, hY⟩ := hI'
      show RS _ _ _ _ [some (.inr (.inr 85)), some (.inr (.inr 25)), some (.inl x), some (.inl f)] [] U
      have b5 : 0 ≤ S 25 0 ∧ S 25 0 ≤ 7 := hB 25 0
      refine r_iload (pc' := 24) rfl rfl rfl ?_
      refine r_aload (pc' := 25) rfl rfl rfl ?_
      refine r_getv (pc' := 28) (v := (S 25 0)) rfl rfl (Or.inl rfl) rfl (hU.2 25 0 (by omega)) ?_
      by_cases h6 : f < (S 25 0)
      · refine r_icmp_ge0 (pc' := 31) rfl rfl (by omega) (by omega) ?_
        refine r_aload (pc' := 32) rfl rfl rfl ?_
        refine r_getv (pc' := 35) (v := (S 85 3)) rfl rfl (Or.inl rfl) rfl (hU.2 85 3 (by omega)) ?_
        refine r_iload (pc' := 36) rfl rfl rfl ?_
        refine r_ishr (pc' := 37) rfl rfl ?_
        have b7 := mx_shr_r (S 85 3) f
        refine r_const (pc' := 38) rfl rfl ?_
        refine r_iand (pc' := 39) rfl rfl ?_
        have b8 := mx_and_r (mx_shr (S 85 3) f) 1
        refine r_const (pc' := 40) rfl rfl ?_
        by_cases h9 : tb (S 85 3) f
        · refine r_icmp_ne0 (pc' := 43) rfl rfl (by omega) ((b_tst (by omega)).mpr h9) ?_
          refine r_iload (pc' := 44) rfl rfl rfl ?_
          refine r_iload (pc' := 45) rfl rfl rfl ?_
          refine r_ishr (pc' := 46) rfl rfl ?_
          have b10 := mx_shr_r x f
          refine r_const (pc' := 47) rfl rfl ?_
          refine r_iand (pc' := 48) rfl rfl ?_
          have b11 := mx_and_r (mx_shr x f) 1
          by_cases h12 : tb x f
          · refine r_if_ne1 (pc' := 66) rfl rfl (by omega) (fun q => absurd h12 (Bool.eq_false_iff.mp ((b_tst0 (by omega)).mp q))) ?_
            refine r_iinc (pc' := 69) (ls' := [some (.inr (.inr 85)), some (.inr (.inr 25)), some (.inl x), some (.inl (f + 1))]) rfl rfl rfl rfl rfl ?_
            refine r_goto (pc' := 23) rfl rfl ?_
            exact ih23 ((f + 1), U) (show (0 ≤ (f + 1) ∧ (f + 1) ≤ S 25 0) ∧ (FR S U) ∧ (FX S U x) ∧ (FY S U x (f + 1)) from by exact ⟨by omega, hU, hZ, fun k k0 k1 k2 k3 => by
        by_cases e : k = f
        · subst e; exact absurd h12 k3
        · exact hY k k0 (by omega) k2 k3⟩) (show (S 25 0 - (f + 1)).toNat < (S 25 0 - f).toNat from by omega)
          · refine r_if_ne0 (pc' := 51) rfl rfl (by omega) ((b_tst0 (by omega)).mpr (Bool.eq_false_iff.mpr h12)) ?_
            refine r_aload (pc' := 52) rfl rfl rfl ?_
            refine r_getr (pc' := 55) (v := 89) rfl rfl rfl rfl rfl ?_
            refine r_iload (pc' := 56) rfl rfl rfl ?_
            refine r_aald (pc' := 57) (v := (90 + x)) 102128 rfl rfl rfl rfl (by omega) rfl ?_
            refine r_iload (pc' := 58) rfl rfl rfl ?_
            refine r_aload (pc' := 59) rfl rfl rfl ?_
            refine r_aload (pc' := 60) rfl rfl rfl ?_
            refine r_iload (pc' := 61) rfl rfl rfl ?_
            refine r_iload (pc' := 62) rfl rfl rfl ?_
            refine q_callE (pc' := 65) (w := some (.inl (ffr U x f))) (S2 := U) (st' := [.inl (ffr U x f), .inl f, .inr (.inr (90 + x))]) rfl rfl rfl (c_X9_fewestFrom (g := x) (a := f) (S := U) hU.1 (show 0 ≤ x ∧ x < 128 from by omega) (show 0 ≤ f ∧ f < 7 from by omega)) (by decide) rfl rfl (Nat.le_of_ble_eq_true rfl) (fun _ _ => ⟨_, _, rfl, rfl⟩) rfl rfl ?_
            have b13 : 0 ≤ (ffr U x f) ∧ (ffr U x f) ≤ 1000000 := ffr_b hU.1 (by omega) (by omega)
            refine r_ast (pc' := 66) 7 rfl rfl (shr_90 (by omega)) (by omega) ?_
            refine r_iinc (pc' := 69) (ls' := [some (.inr (.inr 85)), some (.inr (.inr 25)), some (.inl x), some (.inl (f + 1))]) rfl rfl rfl rfl rfl ?_
            refine r_goto (pc' := 23) rfl rfl ?_
            exact ih23 ((f + 1), (mx_up U (90 + x) f (ffr U x f))) (show (0 ≤ (f + 1) ∧ (f + 1) ≤ S 25 0) ∧ (FR S (mx_up U (90 + x) f (ffr U x f))) ∧ (FX S (mx_up U (90 + x) f (ffr U x f)) x) ∧ (FY S (mx_up U (90 + x) f (ffr U x f)) x (f + 1)) from by exact ⟨by omega, FR_up hU hB (by omega) (by omega), FX_up hU hB (by omega) hZ, FY_t hU hB (by omega) (by omega) hY⟩) (show (S 25 0 - (f + 1)).toNat < (S 25 0 - f).toNat from by omega)
        · refine r_icmp_ne1 (pc' := 66) rfl rfl (by omega) (fun q => h9 ((b_tst (by omega)).mp q)) ?_
          refine r_iinc (pc' := 69) (ls' := [some (.inr (.inr 85)), some (.inr (.inr 25)), some (.inl x), some (.inl (f + 1))]) rfl rfl rfl rfl rfl ?_
          refine r_goto (pc' := 23) rfl rfl ?_
          exact ih23 ((f + 1), U) (show (0 ≤ (f + 1) ∧ (f + 1) ≤ S 25 0) ∧ (FR S U) ∧ (FX S U x) ∧ (FY S U x (f + 1)) from by exact ⟨by omega, hU, hZ, fun k k0 k1 k2 k3 => by
        by_cases e : k = f
        · subst e; exact absurd k2 h9
        · exact hY k k0 (by omega) k2 k3⟩) (show (S 25 0 - (f + 1)).toNat < (S 25 0 - f).toNat from by omega)
      · refine r_icmp_ge1 (pc' := 72) rfl rfl (by omega) (by omega) ?_
        refine r_iinc (pc' := 75) (ls' := [some (.inr (.inr 85)), some (.inr (.inr 25)), some (.inl (x + 1)), some (.inl f)]) rfl rfl rfl rfl rfl ?_
        refine r_goto (pc' := 2) rfl rfl ?_
        refine r_forget [true, true, true, false] rfl ?_
        exact ih2 ((x + 1), U) (show (0 ≤ (x + 1) ∧ (x + 1) ≤ S 85 3 + 1) ∧ (FR S U) ∧ (FX S U (x + 1)) from by exact ⟨by omega, hU, FX_s (by omega) hZ hY⟩) (show (S 85 3 + 1 - (x + 1)).toNat < (S 85 3 + 1 - x).toNat from by omega)
    · skip
      refine q_callE (pc' := 15) (w := some (.inl 0)) (S2 := T) (st' := [.inl 0]) rfl rfl rfl (bi_neg h4 (c_X9_isOpen (g := x) (S := T) hT.1 (show 0 ≤ x ∧ x < 128 from by omega))) (by decide) rfl rfl (Nat.le_of_ble_eq_true rfl) (fun _ _ => ⟨_, _, rfl, rfl⟩) rfl rfl ?_
      refine r_if_ne0 (pc' := 18) rfl rfl (by decide) (by decide) ?_
      refine r_goto (pc' := 72) rfl rfl ?_
      refine r_iinc (pc' := 75) (ls' := [some (.inr (.inr 85)), some (.inr (.inr 25)), some (.inl (x + 1)), none]) rfl rfl rfl rfl rfl ?_
      refine r_goto (pc' := 2) rfl rfl ?_
      exact ih2 ((x + 1), T) (show (0 ≤ (x + 1) ∧ (x + 1) ≤ S 85 3 + 1) ∧ (FR S T) ∧ (FX S T (x + 1)) from by exact ⟨by omega, hT, FX_n (by rw [← hT.2 85 3 (by omega)]; exact h4) hX⟩) (show (S 85 3 + 1 - (x + 1)).toNat < (S 85 3 + 1 - x).toNat from by omega)
/-- LETTERS of a set that can be READ before dark -/
def wrt (S : rS) (g : Int) : Int := sm (fun kk => if tb g kk then S 87 kk else 0) (S 25 0)
noncomputable def gnf (S : rS) (x : Int) : Int := if mx_and x (mx_xor (S 85 3) (-1)) = 0 then if S 25 13 < S 59 2 + ffr S x (S 59 4) then -1 else wrt S x else -1
theorem gnf_b {S : rS} (hB : Bd S) (x : Int) : -1 ≤ gnf S x ∧ gnf S x ≤ 56 := by
  have q := wor_b hB (g := x)
  unfold gnf
  split
  · split
    · omega
    · show -1 ≤ sm _ _ ∧ sm _ _ ≤ 56; omega
  · omega
theorem gn_ffr {S : rS} (hB : Bd S) {g : Int → Int} {x n o : Int} (hx : 0 ≤ x ∧ x < 128) : ffr (mx_up (fl S 218 g n) 218 o (-1)) x (S 59 4) = ffr S x (S 59 4) := by
  have b0 : 0 ≤ S 25 0 ∧ S 25 0 ≤ 7 := hB 25 0
  have b4 : 0 ≤ S 59 4 ∧ S 59 4 ≤ 6 := hB 59 4
  have e : ∀ a j : Int, ¬ a = 218 → mx_up (fl S 218 g n) 218 o (-1) a j = S a j := fun a j h => (up_ne (by omega)).trans (fl_o h)
  exact ffr_cg b0 hx (by omega) (e _ _ (by omega)) (fun k _ _ => e _ _ (by omega)) (fun k _ _ => e _ _ (by omega)) (fun y k _ _ _ _ => e _ _ (by omega))
theorem c_X9_fillGain {S : rS} (hB : Bd S) : CS 2 186 [.inr (.inr 85), .inr (.inr 25), .inr (.inr 59)] S (fun r' S' => r' = none ∧ S' = fl S 218 (gnf S) (S 85 3 + 1)) := by
  refine RS.beg (ls := [some (.inr (.inr 85)), some (.inr (.inr 25)), some (.inr (.inr 59)), none]) rfl rfl rfl rfl rfl ?_
  have b0 : 0 ≤ S 25 0 ∧ S 25 0 ≤ 7 := hB 25 0
  have b85 : 0 ≤ S 85 3 ∧ S 85 3 ≤ 127 := hB 85 3
  have b594 : 0 ≤ S 59 4 ∧ S 59 4 ≤ 6 := hB 59 4
  have b591 : 0 ≤ S 59 1 ∧ S 59 1 ≤ 127 := hB 59 1
  have b592 : 0 ≤ S 59 2 ∧ S 59 2 ≤ 99 := hB 59 2
  have b593 : 0 ≤ S 59 3 ∧ S 59 3 ≤ 999 := hB 59 3
  have b1 : 0 ≤ S 25 13 ∧ S 25 13 ≤ 99 := hB 25 13
  refine r_const (pc' := 1) rfl rfl ?_
  refine r_istore (pc' := 2) (ls' := [some (.inr (.inr 85)), some (.inr (.inr 25)), some (.inr (.inr 59)), some (.inl 0)]) rfl rfl rfl rfl ?_
  refine r_mem (show S = fl S 218 (gnf S) (0 : Int) from by exact fl_0 S _ _) ?_
  refine r_while (α := Int) (fun z' => [some (.inr (.inr 85)), some (.inr (.inr 25)), some (.inr (.inr 59)), some (.inl z')]) (fun z' => fl S 218 (gnf S) z') (fun z' => (0 ≤ z' ∧ z' ≤ S 85 3 + 1)) (fun z' => (S 85 3 + 1 - z').toNat) ?_ 0 (show (0 ≤ (0 : Int) ∧ (0 : Int) ≤ S 85 3 + 1) from by omega)
  rintro x hI' ih2
  have hI' : (0 ≤ x ∧ x ≤ S 85 3 + 1) := hI'
  have i1 := hI'
  show RS _ _ _ _ [some (.inr (.inr 85)), some (.inr (.inr 25)), some (.inr (.inr 59)), some (.inl x)] [] (fl S 218 (gnf S) x)
  have b1 : 0 ≤ S 85 3 ∧ S 85 3 ≤ 127 := hB 85 3
  have hB2 : Bd (fl S 218 (gnf S) x) := by exact Bd_fl hB (fun k _ _ => gnf_b hB k)
  refine r_iload (pc' := 3) rfl rfl rfl ?_
  refine r_aload (pc' := 4) rfl rfl rfl ?_
  refine r_getv (pc' := 7) (v := (S 85 3)) rfl rfl (Or.inl rfl) rfl (fl_o (by omega)) ?_
  by_cases h3 : (S 85 3) < x
  · refine r_icmp_gt1 (pc' := 65) rfl rfl (by omega) (by omega) ?_
    refine q_vret rfl rfl rfl ?_
    obtain rfl : x = S 85 3 + 1 := by omega
    exact ⟨rfl, rfl⟩
  · refine r_icmp_gt0 (pc' := 10) rfl rfl (by omega) (by omega) ?_
    refine r_aload (pc' := 11) rfl rfl rfl ?_
    refine r_getr (pc' := 14) (v := 218) rfl rfl rfl rfl rfl ?_
    refine r_iload (pc' := 15) rfl rfl rfl ?_
    refine r_const (pc' := 16) rfl rfl ?_
    refine r_ast (pc' := 17) 128 rfl rfl rfl (by omega) ?_
    refine r_aload (pc' := 18) rfl rfl rfl ?_
    refine r_iload (pc' := 19) rfl rfl rfl ?_
    by_cases h4 : mx_and x (mx_xor ((mx_up (fl S 218 (gnf S) x) 218 x (-1)) 85 3) (-1)) = 0
    · skip
      refine q_callE (pc' := 22) (w := some (.inl 1)) (S2 := mx_up (fl S 218 (gnf S) x) 218 x (-1)) (st' := [.inl 1]) rfl rfl rfl (bi_pos h4 (c_X9_isOpen (g := x) (S := mx_up (fl S 218 (gnf S) x) 218 x (-1)) (Bd_up hB2 (show (-1 : Int) ≤ (-1) from by omega) (show (-1) ≤ (56 : Int) from by omega)) (show 0 ≤ x ∧ x < 128 from by omega))) (by decide) rfl rfl (Nat.le_of_ble_eq_true rfl) (fun _ _ => ⟨_, _, rfl, rfl⟩) rfl rfl ?_
      refine r_if_eq0 (pc' := 25) rfl rfl (by decide) (by decide) ?_
      refine r_aload (pc' := 26) rfl rfl rfl ?_
      refine r_getv (pc' := 29) (v := (S 59 2)) rfl rfl (Or.inl rfl) rfl ((up_ne (by omega)).trans (fl_o (by omega))) ?_
      have b5 : 0 ≤ S 59 2 ∧ S 59 2 ≤ 99 := hB 59 2
      refine r_aload (pc' := 30) rfl rfl rfl ?_
      refine r_aload (pc' := 31) rfl rfl rfl ?_
      refine r_iload (pc' := 32) rfl rfl rfl ?_
      refine r_aload (pc' := 33) rfl rfl rfl ?_
      refine r_getv (pc' := 36) (v := (S 59 4)) rfl rfl (Or.inl rfl) rfl ((up_ne (by omega)).trans (fl_o (by omega))) ?_
      have b6 : 0 ≤ S 59 4 ∧ S 59 4 ≤ 6 := hB 59 4
      refine q_callE (pc' := 39) (w := some (.inl (ffr (mx_up (fl S 218 (gnf S) x) 218 x (-1)) x (S 59 4)))) (S2 := mx_up (fl S 218 (gnf S) x) 218 x (-1)) (st' := [.inl (ffr (mx_up (fl S 218 (gnf S) x) 218 x (-1)) x (S 59 4)), .inl (S 59 2)]) rfl rfl rfl (c_X9_fewestFrom (g := x) (a := (S 59 4)) (S := mx_up (fl S 218 (gnf S) x) 218 x (-1)) (Bd_up hB2 (show (-1 : Int) ≤ (-1) from by omega) (show (-1) ≤ (56 : Int) from by omega)) (show 0 ≤ x ∧ x < 128 from by omega) (show 0 ≤ (S 59 4) ∧ (S 59 4) < 7 from by omega)) (by decide) rfl rfl (Nat.le_of_ble_eq_true rfl) (fun _ _ => ⟨_, _, rfl, rfl⟩) rfl rfl ?_
      have b7 : 0 ≤ (ffr (mx_up (fl S 218 (gnf S) x) 218 x (-1)) x (S 59 4)) ∧ (ffr (mx_up (fl S 218 (gnf S) x) 218 x (-1)) x (S 59 4)) ≤ 1000000 := ffr_b (Bd_up hB2 (show (-1 : Int) ≤ (-1) from by omega) (show (-1) ≤ (56 : Int) from by omega)) (by omega) (by omega)
      refine r_iadd (pc' := 40) rfl rfl ?_
      refine r_aload (pc' := 41) rfl rfl rfl ?_
      refine r_getv (pc' := 44) (v := (S 25 13)) rfl rfl (Or.inl rfl) rfl ((up_ne (by omega)).trans (fl_o (by omega))) ?_
      have b8 : 0 ≤ S 25 13 ∧ S 25 13 ≤ 99 := hB 25 13
      by_cases h9 : (S 25 13) < ((S 59 2) + (ffr (mx_up (fl S 218 (gnf S) x) 218 x (-1)) x (S 59 4)))
      · refine r_icmp_gt1 (pc' := 59) rfl rfl (by omega) (by omega) ?_
        refine r_iinc (pc' := 62) (ls' := [some (.inr (.inr 85)), some (.inr (.inr 25)), some (.inr (.inr 59)), some (.inl (x + 1))]) rfl rfl rfl rfl rfl ?_
        refine r_goto (pc' := 2) rfl rfl ?_
        refine r_mem (show mx_up (fl S 218 (gnf S) x) 218 x (-1) = fl S 218 (gnf S) (x + 1) from by have h9 : (S 25 13 < S 59 2 + ffr (mx_up (fl S 218 (gnf S) x) 218 x (-1)) x (S 59 4)) := h9; rw [gn_ffr hB (by omega)] at h9; exact fl_s (by omega) (show (-1 : Int) = gnf S x from ((if_pos (show mx_and x (mx_xor (S 85 3) (-1)) = 0 from h4)).trans (if_pos h9)).symm)) ?_
        exact ih2 (x + 1) (show (0 ≤ (x + 1) ∧ (x + 1) ≤ S 85 3 + 1) from by omega) (show (S 85 3 + 1 - (x + 1)).toNat < (S 85 3 + 1 - x).toNat from by omega)
      · refine r_icmp_gt0 (pc' := 47) rfl rfl (by omega) (by omega) ?_
        refine r_aload (pc' := 48) rfl rfl rfl ?_
        refine r_getr (pc' := 51) (v := 218) rfl rfl rfl rfl rfl ?_
        refine r_iload (pc' := 52) rfl rfl rfl ?_
        refine r_aload (pc' := 53) rfl rfl rfl ?_
        refine r_aload (pc' := 54) rfl rfl rfl ?_
        refine r_iload (pc' := 55) rfl rfl rfl ?_
        refine q_callE (pc' := 58) (w := some (.inl (sm (fun kk => if tb x kk then (mx_up (fl S 218 (gnf S) x) 218 x (-1)) 87 kk else 0) ((mx_up (fl S 218 (gnf S) x) 218 x (-1)) 25 0)))) (S2 := mx_up (fl S 218 (gnf S) x) 218 x (-1)) (st' := [.inl (sm (fun kk => if tb x kk then (mx_up (fl S 218 (gnf S) x) 218 x (-1)) 87 kk else 0) ((mx_up (fl S 218 (gnf S) x) 218 x (-1)) 25 0)), .inl x, .inr (.inr 218)]) rfl rfl rfl (c_X9_worthOf (g := x) (S := mx_up (fl S 218 (gnf S) x) 218 x (-1)) (Bd_up hB2 (show (-1 : Int) ≤ (-1) from by omega) (show (-1) ≤ (56 : Int) from by omega)) (show 0 ≤ x ∧ x < 128 from by omega)) (by decide) rfl rfl (Nat.le_of_ble_eq_true rfl) (fun _ _ => ⟨_, _, rfl, rfl⟩) rfl rfl ?_
        have b10 : 0 ≤ (sm (fun kk => if tb x kk then (mx_up (fl S 218 (gnf S) x) 218 x (-1)) 87 kk else 0) ((mx_up (fl S 218 (gnf S) x) 218 x (-1)) 25 0)) ∧ (sm (fun kk => if tb x kk then (mx_up (fl S 218 (gnf S) x) 218 x (-1)) 87 kk else 0) ((mx_up (fl S 218 (gnf S) x) 218 x (-1)) 25 0)) ≤ 56 := wor_b (Bd_up hB2 (show (-1 : Int) ≤ (-1) from by omega) (show (-1) ≤ (56 : Int) from by omega))
        refine r_ast (pc' := 59) 128 rfl rfl rfl (by omega) ?_
        refine r_iinc (pc' := 62) (ls' := [some (.inr (.inr 85)), some (.inr (.inr 25)), some (.inr (.inr 59)), some (.inl (x + 1))]) rfl rfl rfl rfl rfl ?_
        refine r_goto (pc' := 2) rfl rfl ?_
        refine r_mem (show mx_up (mx_up (fl S 218 (gnf S) x) 218 x (-1)) 218 x (sm (fun kk => if tb x kk then (mx_up (fl S 218 (gnf S) x) 218 x (-1)) 87 kk else 0) ((mx_up (fl S 218 (gnf S) x) 218 x (-1)) 25 0)) = fl S 218 (gnf S) (x + 1) from by have h9 : ¬ (S 25 13 < S 59 2 + ffr (mx_up (fl S 218 (gnf S) x) 218 x (-1)) x (S 59 4)) := h9; rw [gn_ffr hB (by omega)] at h9; rw [up_up]; exact fl_s (by omega) (show wrt S x = gnf S x from ((if_pos (show mx_and x (mx_xor (S 85 3) (-1)) = 0 from h4)).trans (if_neg h9)).symm)) ?_
        exact ih2 (x + 1) (show (0 ≤ (x + 1) ∧ (x + 1) ≤ S 85 3 + 1) from by omega) (show (S 85 3 + 1 - (x + 1)).toNat < (S 85 3 + 1 - x).toNat from by omega)
    · skip
      refine q_callE (pc' := 22) (w := some (.inl 0)) (S2 := mx_up (fl S 218 (gnf S) x) 218 x (-1)) (st' := [.inl 0]) rfl rfl rfl (bi_neg h4 (c_X9_isOpen (g := x) (S := mx_up (fl S 218 (gnf S) x) 218 x (-1)) (Bd_up hB2 (show (-1 : Int) ≤ (-1) from by omega) (show (-1) ≤ (56 : Int) from by omega)) (show 0 ≤ x ∧ x < 128 from by omega))) (by decide) rfl rfl (Nat.le_of_ble_eq_true rfl) (fun _ _ => ⟨_, _, rfl, rfl⟩) rfl rfl ?_
      refine r_if_eq1 (pc' := 59) rfl rfl (by decide) (by decide) ?_
      refine r_iinc (pc' := 62) (ls' := [some (.inr (.inr 85)), some (.inr (.inr 25)), some (.inr (.inr 59)), some (.inl (x + 1))]) rfl rfl rfl rfl rfl ?_
      refine r_goto (pc' := 2) rfl rfl ?_
      refine r_mem (show mx_up (fl S 218 (gnf S) x) 218 x (-1) = fl S 218 (gnf S) (x + 1) from by exact fl_s (by omega) (show (-1 : Int) = gnf S x from (if_neg (show ¬ mx_and x (mx_xor (S 85 3) (-1)) = 0 from h4)).symm)) ?_
      exact ih2 (x + 1) (show (0 ≤ (x + 1) ∧ (x + 1) ≤ S 85 3 + 1) from by omega) (show (S 85 3 + 1 - (x + 1)).toNat < (S 85 3 + 1 - x).toNat from by omega)
/-- the best set so far: LETTERS, FIELDS -/
def pks (S : rS) : Int → Int × Int → Int × Int := fun k z => if z.1 < S 218 k then (S 218 k, pop k) else if S 218 k = z.1 ∧ pop k < z.2 then (S 218 k, pop k) else z
def pkb (S : rS) (x : Int) : Int × Int := fo (pks S) (0, 0) x.toNat
theorem pkb_b {S : rS} (hB : Bd S) {x : Int} (hx : 0 ≤ x ∧ x ≤ 128) : (0 ≤ (pkb S x).1 ∧ (pkb S x).1 ≤ 56) ∧ 0 ≤ (pkb S x).2 ∧ (pkb S x).2 ≤ 7 := by
  refine fo_ind (f := pks S) (a := (0, 0)) (fun _ z => (0 ≤ z.1 ∧ z.1 ≤ 56) ∧ 0 ≤ z.2 ∧ z.2 ≤ 7) (by decide) (N := x.toNat) (fun k z k0 k1 hz => ?_) x.toNat (Nat.le_refl _)
  have q : -1 ≤ S 218 k ∧ S 218 k ≤ 56 := hB 218 k
  have q1 := pop_r k
  have q2 := pop_7 (a := k) (by omega)
  unfold pks
  split
  · exact ⟨⟨by omega, q.2⟩, q1.1, q2⟩
  · split
    · exact ⟨⟨by omega, q.2⟩, q1.1, q2⟩
    · exact hz
noncomputable def pkS (S : rS) (x : Int) : rS := mx_up (mx_up S 85 2 (pkb S x).1) 85 1 (pkb S x).2
theorem pk_s {S : rS} {x : Int} (hx : 0 ≤ x) : pkb S (x + 1) = pks S x (pkb S x) := fo_s hx
theorem pkS_o {S : rS} {x a j : Int} (h : ¬ (a = 85 ∧ (j = 1 ∨ j = 2))) : pkS S x a j = S a j := by
  unfold pkS; rw [up_ne (by omega), up_ne (by omega)]
theorem pk_t {S : rS} {x : Int} (hx : 0 ≤ x) (h : (pkb S x).1 < S 218 x ∨ (S 218 x = (pkb S x).1 ∧ pop x < (pkb S x).2)) : mx_up (mx_up (pkS S x) 85 2 (S 218 x)) 85 1 (pop x) = pkS S (x + 1) := by
  have e : pkb S (x + 1) = (S 218 x, pop x) := by
    rw [pk_s hx]; unfold pks
    by_cases h1 : (pkb S x).1 < S 218 x
    · rw [if_pos h1]
    · rw [if_neg h1, if_pos (h.resolve_left h1)]
  unfold pkS
  rw [e, up_comm (a := 85) (i := 1) (b := 85) (j := 2) (by omega), up_up, up_up]
theorem pk_f {S : rS} {x : Int} (hx : 0 ≤ x) (h1 : ¬ (pkb S x).1 < S 218 x) (h2 : ¬ (S 218 x = (pkb S x).1 ∧ pop x < (pkb S x).2)) : pkS S x = pkS S (x + 1) := by
  have e : pkb S (x + 1) = pkb S x := by
    rw [pk_s hx]; unfold pks; rw [if_neg h1, if_neg h2]
  unfold pkS; rw [e]
theorem Bd_pkS {S : rS} (hB : Bd S) {x : Int} (hx : 0 ≤ x ∧ x ≤ 128) : Bd (pkS S x) := by
  have q := pkb_b hB hx
  unfold pkS
  exact Bd_up (Bd_up hB q.1.1 q.1.2) q.2.1 q.2.2
theorem c_X9_pickBest {S : rS} (hB : Bd S) : CS 2 191 [.inr (.inr 85)] S (fun r' S' => r' = none ∧ S' = pkS S (S 85 3 + 1)) := by
  refine RS.beg (ls := [some (.inr (.inr 85)), none, none]) rfl rfl rfl rfl rfl ?_
  have b85 : 0 ≤ S 85 3 ∧ S 85 3 ≤ 127 := hB 85 3
  refine r_aload (pc' := 1) rfl rfl rfl ?_
  refine r_const (pc' := 2) rfl rfl ?_
  refine r_put (pc' := 5) rfl rfl rfl rfl ?_
  refine r_aload (pc' := 6) rfl rfl rfl ?_
  refine r_const (pc' := 7) rfl rfl ?_
  refine r_put (pc' := 10) rfl rfl rfl rfl ?_
  refine r_const (pc' := 11) rfl rfl ?_
  refine r_istore (pc' := 12) (ls' := [some (.inr (.inr 85)), some (.inl 0), none]) rfl rfl rfl rfl ?_
  refine r_mem (show mx_up (mx_up S 85 2 0) 85 1 0 = pkS S (0 : Int) from by exact rfl) ?_
  refine r_while (α := Int) (fun z' => [some (.inr (.inr 85)), some (.inl z'), none]) (fun z' => pkS S z') (fun z' => (0 ≤ z' ∧ z' ≤ S 85 3 + 1)) (fun z' => (S 85 3 + 1 - z').toNat) ?_ 0 (show (0 ≤ (0 : Int) ∧ (0 : Int) ≤ S 85 3 + 1) from by omega)
  rintro x hI' ih12
  have hI' : (0 ≤ x ∧ x ≤ S 85 3 + 1) := hI'
  have i1 := hI'
  show RS _ _ _ _ [some (.inr (.inr 85)), some (.inl x), none] [] (pkS S x)
  have pkq := pkb_b hB (x := x) (by omega)
  have b1 : 0 ≤ S 85 3 ∧ S 85 3 ≤ 127 := hB 85 3
  have hB2 : Bd (pkS S x) := by exact Bd_pkS hB (by omega)
  refine r_iload (pc' := 13) rfl rfl rfl ?_
  refine r_aload (pc' := 14) rfl rfl rfl ?_
  refine r_getv (pc' := 17) (v := (S 85 3)) rfl rfl (Or.inl rfl) rfl (pkS_o (by omega)) ?_
  by_cases h3 : (S 85 3) < x
  · refine r_icmp_gt1 (pc' := 80) rfl rfl (by omega) (by omega) ?_
    refine q_vret rfl rfl rfl ?_
    obtain rfl : x = S 85 3 + 1 := by omega
    exact ⟨rfl, rfl⟩
  · refine r_icmp_gt0 (pc' := 20) rfl rfl (by omega) (by omega) ?_
    refine r_iload (pc' := 21) rfl rfl rfl ?_
    refine q_callE (pc' := 24) (w := some (.inl (pop x))) (S2 := (pkS S x)) (st' := [.inl (pop x)]) rfl rfl rfl (c_J6_bitCount_0f7a4 (a := x) (S := (pkS S x))  (show 0 ≤ x ∧ x < 512 from by omega)) (by decide) rfl rfl (Nat.le_of_ble_eq_true rfl) (fun q => absurd rfl q) rfl rfl ?_
    have b4 : 0 ≤ (pop x) ∧ (pop x) ≤ 9 := pop_r _
    have p7 := pop_7 (a := x) (by omega)
    refine r_istore (pc' := 25) (ls' := [some (.inr (.inr 85)), some (.inl x), some (.inl (pop x))]) rfl rfl rfl rfl ?_
    refine r_aload (pc' := 26) rfl rfl rfl ?_
    refine r_getr (pc' := 29) (v := 218) rfl rfl rfl rfl rfl ?_
    refine r_iload (pc' := 30) rfl rfl rfl ?_
    refine r_aldv (pc' := 31) (v := (S 218 x)) 128 rfl rfl rfl (by omega) (pkS_o (by omega)) ?_
    have b5 : -1 ≤ S 218 x ∧ S 218 x ≤ 56 := hB 218 x
    refine r_aload (pc' := 32) rfl rfl rfl ?_
    refine r_getv (pc' := 35) (v := ((pkb S x).1)) rfl rfl (Or.inl rfl) rfl ((up_ne (by omega)).trans up_eq) ?_
    by_cases h6 : ((pkb S x).1) < (S 218 x)
    · refine r_icmp_gt1 (pc' := 59) rfl rfl (by omega) (by omega) ?_
      refine r_aload (pc' := 60) rfl rfl rfl ?_
      refine r_aload (pc' := 61) rfl rfl rfl ?_
      refine r_getr (pc' := 64) (v := 218) rfl rfl rfl rfl rfl ?_
      refine r_iload (pc' := 65) rfl rfl rfl ?_
      refine r_aldv (pc' := 66) (v := (S 218 x)) 128 rfl rfl rfl (by omega) (pkS_o (by omega)) ?_
      refine r_put (pc' := 69) rfl rfl rfl rfl ?_
      refine r_aload (pc' := 70) rfl rfl rfl ?_
      refine r_iload (pc' := 71) rfl rfl rfl ?_
      refine r_put (pc' := 74) rfl rfl rfl rfl ?_
      refine r_iinc (pc' := 77) (ls' := [some (.inr (.inr 85)), some (.inl (x + 1)), some (.inl (pop x))]) rfl rfl rfl rfl rfl ?_
      refine r_goto (pc' := 12) rfl rfl ?_
      refine r_forget [true, true, false] rfl ?_
      refine r_mem (show mx_up (mx_up (pkS S x) 85 2 (S 218 x)) 85 1 (pop x) = pkS S (x + 1) from by exact pk_t (by omega) (by omega)) ?_
      exact ih12 (x + 1) (show (0 ≤ (x + 1) ∧ (x + 1) ≤ S 85 3 + 1) from by omega) (show (S 85 3 + 1 - (x + 1)).toNat < (S 85 3 + 1 - x).toNat from by omega)
    · refine r_icmp_gt0 (pc' := 38) rfl rfl (by omega) (by omega) ?_
      refine r_aload (pc' := 39) rfl rfl rfl ?_
      refine r_getr (pc' := 42) (v := 218) rfl rfl rfl rfl rfl ?_
      refine r_iload (pc' := 43) rfl rfl rfl ?_
      refine r_aldv (pc' := 44) (v := (S 218 x)) 128 rfl rfl rfl (by omega) (pkS_o (by omega)) ?_
      refine r_aload (pc' := 45) rfl rfl rfl ?_
      refine r_getv (pc' := 48) (v := ((pkb S x).1)) rfl rfl (Or.inl rfl) rfl ((up_ne (by omega)).trans up_eq) ?_
      by_cases h7 : (S 218 x) = ((pkb S x).1)
      · refine r_icmp_ne0 (pc' := 51) rfl rfl (by omega) (by omega) ?_
        refine r_iload (pc' := 52) rfl rfl rfl ?_
        refine r_aload (pc' := 53) rfl rfl rfl ?_
        refine r_getv (pc' := 56) (v := ((pkb S x).2)) rfl rfl (Or.inl rfl) rfl up_eq ?_
        by_cases h8 : (pop x) < ((pkb S x).2)
        · refine r_icmp_ge0 (pc' := 59) rfl rfl (by omega) (by omega) ?_
          refine r_aload (pc' := 60) rfl rfl rfl ?_
          refine r_aload (pc' := 61) rfl rfl rfl ?_
          refine r_getr (pc' := 64) (v := 218) rfl rfl rfl rfl rfl ?_
          refine r_iload (pc' := 65) rfl rfl rfl ?_
          refine r_aldv (pc' := 66) (v := (S 218 x)) 128 rfl rfl rfl (by omega) (pkS_o (by omega)) ?_
          refine r_put (pc' := 69) rfl rfl rfl rfl ?_
          refine r_aload (pc' := 70) rfl rfl rfl ?_
          refine r_iload (pc' := 71) rfl rfl rfl ?_
          refine r_put (pc' := 74) rfl rfl rfl rfl ?_
          refine r_iinc (pc' := 77) (ls' := [some (.inr (.inr 85)), some (.inl (x + 1)), some (.inl (pop x))]) rfl rfl rfl rfl rfl ?_
          refine r_goto (pc' := 12) rfl rfl ?_
          refine r_forget [true, true, false] rfl ?_
          refine r_mem (show mx_up (mx_up (pkS S x) 85 2 (S 218 x)) 85 1 (pop x) = pkS S (x + 1) from by exact pk_t (by omega) (by omega)) ?_
          exact ih12 (x + 1) (show (0 ≤ (x + 1) ∧ (x + 1) ≤ S 85 3 + 1) from by omega) (show (S 85 3 + 1 - (x + 1)).toNat < (S 85 3 + 1 - x).toNat from by omega)
        · refine r_icmp_ge1 (pc' := 74) rfl rfl (by omega) (by omega) ?_
          refine r_iinc (pc' := 77) (ls' := [some (.inr (.inr 85)), some (.inl (x + 1)), some (.inl (pop x))]) rfl rfl rfl rfl rfl ?_
          refine r_goto (pc' := 12) rfl rfl ?_
          refine r_forget [true, true, false] rfl ?_
          refine r_mem (show (pkS S x) = pkS S (x + 1) from by exact pk_f (by omega) (by omega) (by omega)) ?_
          exact ih12 (x + 1) (show (0 ≤ (x + 1) ∧ (x + 1) ≤ S 85 3 + 1) from by omega) (show (S 85 3 + 1 - (x + 1)).toNat < (S 85 3 + 1 - x).toNat from by omega)
      · refine r_icmp_ne1 (pc' := 74) rfl rfl (by omega) (by omega) ?_
        refine r_iinc (pc' := 77) (ls' := [some (.inr (.inr 85)), some (.inl (x + 1)), some (.inl (pop x))]) rfl rfl rfl rfl rfl ?_
        refine r_goto (pc' := 12) rfl rfl ?_
        refine r_forget [true, true, false] rfl ?_
        refine r_mem (show (pkS S x) = pkS S (x + 1) from by exact pk_f (by omega) (by omega) (by omega)) ?_
        exact ih12 (x + 1) (show (0 ≤ (x + 1) ∧ (x + 1) ≤ S 85 3 + 1) from by omega) (show (S 85 3 + 1 - (x + 1)).toNat < (S 85 3 + 1 - x).toNat from by omega)
