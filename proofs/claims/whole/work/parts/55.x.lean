/-! THE FEAST: one and the same -/
theorem sd_pn : ∀ x d : Fin 128, mx_and x.val d.val = d.val → (0 ≤ mx_and x.val (mx_xor d.val (-1)) ∧ mx_and x.val (mx_xor d.val (-1)) < 128) ∧ pop (mx_and x.val (mx_xor d.val (-1))) + pop d.val = pop x.val := by decide +kernel
theorem sd_p {x d : Int} (hx : 0 ≤ x ∧ x < 128) (hd : 0 ≤ d ∧ d < 128) (h : mx_and x d = d) : (0 ≤ mx_and x (mx_xor d (-1)) ∧ mx_and x (mx_xor d (-1)) < 128) ∧ pop (mx_and x (mx_xor d (-1))) + pop d = pop x := by
  obtain ⟨a, rfl⟩ := Int.eq_ofNat_of_zero_le hx.1
  obtain ⟨b, rfl⟩ := Int.eq_ofNat_of_zero_le hd.1
  exact sd_pn ⟨a, by omega⟩ ⟨b, by omega⟩ h
theorem and_sb {x d : Int} (h : mx_and x d = d) {y : Int} (t : tb d y) : tb x y := by
  have q : bt (mx_and x d) y.toNat = true := by rw [h]; exact t
  rw [b_and, Bool.and_eq_true] at q
  exact q.1
section
variable {B T : rS}
/-- a row by which a best set can be gone through from here -/
def Cmp (B T : rS) (L m : Int) (z : Int × Int × Int) (l : List Int) : Prop := ∃ x : Int, (0 ≤ x ∧ x ≤ T 85 3) ∧ (gnf T x = L ∧ pop x = m) ∧ mx_and x z.1 = z.1 ∧ enl B (mx_and x (mx_xor z.1 (-1))) l ∧ z.2.2 + cst B z.2.1 l ≤ B 233 186
abbrev zok (B : rS) (z : Int × Int × Int) : Prop := (0 ≤ z.1 ∧ z.1 < 128) ∧ (0 ≤ z.2.1 ∧ z.2.1 < B 233 0) ∧ 0 ≤ z.2.2
theorem Cmp_len (hB : Bd B) (h : CLF B T) {L m : Int} {z : Int × Int × Int} {l : List Int} (hz : zok B z) (c : Cmp B T L m z l) : (l.length : Int) = m - pop z.1 := by
  obtain ⟨x, x0, x1, x2, x3, x4⟩ := c
  have s := sd_p (x := x) (d := z.1) ⟨x0.1, by have := h.2.2.2.1; omega⟩ hz.1 x2
  have w := (enl_w hB h l _ s.1 x3).2
  omega
theorem sd_del {x d f : Int} (hx : 0 ≤ x ∧ x < 128) (hd : 0 ≤ d ∧ d < 128) (h : mx_and x d = d) (hf : 0 ≤ f ∧ f < 7) : del (mx_and x (mx_xor d (-1))) f = mx_and x (mx_xor (mx_or d (mx_shl 1 f)) (-1)) := b_ext (mx_and_r _ _) (mx_and_r _ _) (fun i hi => by
  obtain ⟨k, rfl⟩ := Int.eq_ofNat_of_zero_le hf.1
  show bt (mx_and (mx_and x (mx_xor d (-1))) (mx_xor (mx_shl 1 (k : Int)) (-1))) i = _
  rw [b_and, b_and, b_and, b_xor, b_xor, b_xor, b_or, b_m1 i hi]
  cases bt x i <;> cases bt d i <;> cases bt (mx_shl 1 (k : Int)) i <;> rfl)
/-- memory as layRow finds it -/
def LAY (S T : rS) (L m : Int) : Prop := (∀ a j : Int, ¬ (a = 218 ∨ a = 85 ∧ (j = 1 ∨ j = 2)) → S a j = T a j) ∧ (∀ x : Int, 0 ≤ x → x ≤ T 85 3 → S 218 x = gnf T x) ∧ S 85 2 = L ∧ S 85 1 = m
theorem gon_c (hB : Bd B) (h : CLF B T) {S : rS} {L m : Int} (hS : LAY S T L m) (hL : 0 ≤ L) {z : Int × Int × Int} (hz : zok B z) {f : Int} (hf : 0 ≤ f ∧ f < B 233 0) : gon S z f ↔ ∃ l, Cmp B T L m z (f :: l) := by
  have n0 : 0 ≤ B 233 0 ∧ B 233 0 ≤ 7 := hB 233 0
  have dk : 0 ≤ B 233 186 ∧ B 233 186 ≤ 99 := hB 233 186
  obtain ⟨s1, s2, s3, s4⟩ := hS
  obtain ⟨z1, z2, z3⟩ := hz
  have tO := h.2.2.2.1
  have ng := ngW_b hB (a := z.2.1) (f := f) (by omega)
  have ew : S (52 + z.2.1) f + S 88 f = ngW B z.2.1 f := by rw [s1 _ _ (by omega), s1 _ _ (by omega)]; exact h.2.1 z.2.1 f z2.1 z2.2 hf.1 hf.2
  have o1 := or_128 z1 (k := f) (by omega)
  have e85 : S 85 3 = T 85 3 := s1 85 3 (by omega)
  have e25 : S 25 13 = B 233 186 := by rw [s1 25 13 (by omega)]; exact h.1.2.1
  unfold gon cgE cgo
  rw [e85, e25, s3, s4]
  constructor
  · rintro ⟨nt, x, ⟨x0, x1⟩, x2, x3, x4, x5⟩
    have hx : 0 ≤ x ∧ x < 128 := by omega
    rw [s2 x hx.1 x1] at x2
    have gp := gnf_p hB h hx (by omega)
    have s := sd_p hx o1 x4
    have fx : tb x f := and_sb x4 ((tb_or (by omega) (by omega)).mpr (Or.inr rfl))
    have sub : sbO (mx_and x (mx_xor (mx_or z.1 (mx_shl 1 f)) (-1))) (T 85 3) := fun y y0 y1 t => gp.1 y y0 y1 ((tb_sd (by omega)).mp t).1
    have le := sub_le s.1 tO sub
    have nf : ¬ tb (mx_and x (mx_xor (mx_or z.1 (mx_shl 1 f)) (-1))) f := fun t => ((tb_sd (by omega)).mp t).2 ((tb_or (by omega) (by omega)).mpr (Or.inr rfl))
    have eT : S (90 + mx_and x (mx_xor (mx_or z.1 (mx_shl 1 f)) (-1))) f = ffr T (mx_and x (mx_xor (mx_or z.1 (mx_shl 1 f)) (-1))) f := by
      rw [s1 _ _ (by omega)]
      exact h.2.2.2.2.2 _ f s.1.1 le.1 sub hf.1 hf.2 (gp.1 f hf.1 (by omega) fx) nf
    rw [eT] at x5
    obtain ⟨l, hl, hc⟩ := ffr_hi hB h 9 _ f (by have := pop_r (mx_and x (mx_xor (mx_or z.1 (mx_shl 1 f)) (-1))); omega) s.1 sub hf (by omega)
    have dz : mx_and x z.1 = z.1 := (sub_le z1 hx (fun y y0 y1 t => and_sb x4 ((tb_or (by omega) (by omega)).mpr (Or.inl t)))).2
    refine ⟨l, x, ⟨hx.1, x1⟩, ⟨x2, x3⟩, dz, ⟨hf, (tb_sd (by omega)).mpr ⟨fx, nt⟩, by rw [sd_del hx z1 dz (by omega)]; exact hl⟩, ?_⟩
    show z.2.2 + (ngW B z.2.1 f + cst B f l) ≤ _
    omega
  · rintro ⟨l, x, x0, ⟨x1, x2⟩, x3, ⟨_, t, he⟩, hc⟩
    have hx : 0 ≤ x ∧ x < 128 := by omega
    have gp := gnf_p hB h hx (by omega)
    have t := (tb_sd (by omega)).mp t
    rw [sd_del hx z1 x3 (by omega)] at he
    have d' := sub_le o1 hx (fun y y0 y1 q => by
      rcases (tb_or (by omega) (by omega)).mp q with q | q
      · exact and_sb x3 q
      · rw [q]; exact t.1)
    have s := sd_p hx o1 d'.2
    have sub : sbO (mx_and x (mx_xor (mx_or z.1 (mx_shl 1 f)) (-1))) (T 85 3) := fun y y0 y1 q => gp.1 y y0 y1 ((tb_sd (by omega)).mp q).1
    have le := sub_le s.1 tO sub
    have nf : ¬ tb (mx_and x (mx_xor (mx_or z.1 (mx_shl 1 f)) (-1))) f := fun q => ((tb_sd (by omega)).mp q).2 ((tb_or (by omega) (by omega)).mpr (Or.inr rfl))
    have eT : S (90 + mx_and x (mx_xor (mx_or z.1 (mx_shl 1 f)) (-1))) f = ffr T (mx_and x (mx_xor (mx_or z.1 (mx_shl 1 f)) (-1))) f := by
      rw [s1 _ _ (by omega)]
      exact h.2.2.2.2.2 _ f s.1.1 le.1 sub hf.1 hf.2 (gp.1 f hf.1 (by omega) t.1) nf
    have lo := ffr_lo hB h l _ f s.1 sub hf he
    have hc : z.2.2 + (ngW B z.2.1 f + cst B f l) ≤ B 233 186 := hc
    exact ⟨t.2, x, ⟨d'.1, x0.2⟩, by rw [s2 x hx.1 x0.2]; exact x1, x2, d'.2, by rw [eT]; omega⟩
/-- the row laid, as a list -/
noncomputable def gl (S : rS) : Nat → Nat → List Int
  | 0, _ => []
  | r + 1, k => lfs S (lst S k) :: gl S r (k + 1)
theorem gl_n (S : rS) : ∀ r k : Nat, (gl S r k).length = r
  | 0, _ => rfl
  | r + 1, k => by show (_ :: gl S r (k + 1)).length = _; rw [List.length_cons, gl_n S r (k + 1)]
theorem gl_g (S : rS) : ∀ (r k i : Nat), i < r → (gl S r k).getD i 0 = lfs S (lst S ((k + i : Nat) : Int))
  | 0, _, _, h => by omega
  | r + 1, k, 0, _ => rfl
  | r + 1, k, i + 1, h => by
    show (gl S r (k + 1)).getD i 0 = _
    rw [gl_g S r (k + 1) i (by omega), show k + 1 + i = k + (i + 1) by omega]
theorem gl_p (hB : Bd B) (h : CLF B T) {S : rS} {L m : Int} (hS : LAY S T L m) (hL : 0 ≤ L) : ∀ (r k : Nat), zok B (lst S k) → (∃ l, (l.length : Int) = r ∧ Cmp B T L m (lst S k) l) → Cmp B T L m (lst S k) (gl S r k) ∧ (∀ l, Cmp B T L m (lst S k) l → lexle (gl S r k) l) ∧ ∀ i : Nat, i < r → lfs S (lst S ((k + i : Nat) : Int)) ≠ -1
  | 0, k, _, ⟨l, hl, hc⟩ => by
    have e : l = [] := List.eq_nil_of_length_eq_zero (by omega)
    rw [e] at hc
    exact ⟨hc, fun _ _ => trivial, fun i hi => by omega⟩
  | r + 1, k, hz, ⟨l, hl, hc⟩ => by
    have n0 : 0 ≤ B 233 0 ∧ B 233 0 ≤ 7 := hB 233 0
    cases l with
    | nil => have hl : (0 : Int) = ((r + 1 : Nat) : Int) := hl; omega
    | cons f0 l0 =>
      have hl0 : ((l0.length + 1 : Nat) : Int) = ((r + 1 : Nat) : Int) := hl
      have g0 : ∀ f l, Cmp B T L m (lst S k) (f :: l) → (0 ≤ f ∧ f < B 233 0) ∧ gon S (lst S k) f := fun f l c => by
        have c' := c
        obtain ⟨x, _, _, _, he, _⟩ := c'
        exact ⟨he.1, (gon_c hB h hS hL hz he.1).mpr ⟨l, c⟩⟩
      have e25 : S 25 0 = B 233 0 := by rw [hS.1 25 0 (by omega)]; exact h.1.1
      have hf0 := g0 f0 l0 hc
      have ef : lfs S (lst S k) = fst1 (gon S (lst S k)) (B 233 0).toNat := by unfold lfs; rw [e25, show (((B 233 0).toNat : Nat) : Int) = B 233 0 by omega]
      rcases fst1_l (P := gon S (lst S k)) (B 233 0).toNat with ⟨a, b⟩ | ⟨a, b, c⟩
      · exact absurd hf0.2 (b f0 hf0.1.1 (by omega))
      rw [← ef] at a b c
      generalize hf : lfs S (lst S k) = f at *
      have hfr : 0 ≤ f ∧ f < B 233 0 := by omega
      obtain ⟨l1, hc1⟩ := (gon_c hB h hS hL hz hfr).mp b
      have en : lst S ((k : Int) + 1) = (mx_or (lst S k).1 (mx_shl 1 f), f, (lst S k).2.2 + S (52 + (lst S k).2.1) f + S 88 f) := by
        rw [lst_s (by omega)]; unfold lnx; rw [hf, if_neg (by omega)]
      have ew : S (52 + (lst S k).2.1) f + S 88 f = ngW B (lst S k).2.1 f := by rw [hS.1 _ _ (by omega), hS.1 _ _ (by omega)]; exact h.2.1 _ f hz.2.1.1 hz.2.1.2 hfr.1 hfr.2
      have ng := ngW_b hB (a := (lst S k).2.1) (f := f) (by omega)
      have nx : ∀ l, Cmp B T L m (lst S k) (f :: l) ↔ Cmp B T L m (lst S ((k + 1 : Nat) : Int)) l := fun l => by
        rw [show ((k + 1 : Nat) : Int) = (k : Int) + 1 from rfl, en]
        have o1 := or_128 hz.1 (k := f) (by omega)
        constructor
        · rintro ⟨x, x0, x1, x2, ⟨_, t, he⟩, hc⟩
          have hx : 0 ≤ x ∧ x < 128 := ⟨x0.1, by have := h.2.2.2.1; omega⟩
          have t := (tb_sd (by omega)).mp t
          have d' := sub_le o1 hx (fun y y0 y1 q => by
            rcases (tb_or (by omega) (by omega)).mp q with q | q
            · exact and_sb x2 q
            · rw [q]; exact t.1)
          rw [sd_del hx hz.1 x2 (by omega)] at he
          have hc : (lst S k).2.2 + (ngW B (lst S k).2.1 f + cst B f l) ≤ B 233 186 := hc
          exact ⟨x, x0, x1, d'.2, he, by show (lst S k).2.2 + S (52 + (lst S k).2.1) f + S 88 f + cst B f l ≤ _; omega⟩
        · rintro ⟨x, x0, x1, x2, he, hc⟩
          have hx : 0 ≤ x ∧ x < 128 := ⟨x0.1, by have := h.2.2.2.1; omega⟩
          have dz : mx_and x (lst S k).1 = (lst S k).1 := (sub_le hz.1 hx (fun y y0 y1 t => and_sb x2 ((tb_or (by omega) (by omega)).mpr (Or.inl t)))).2
          have fx : tb x f := and_sb x2 ((tb_or (by omega) (by omega)).mpr (Or.inr rfl))
          have hc : (lst S k).2.2 + S (52 + (lst S k).2.1) f + S 88 f + cst B f l ≤ B 233 186 := hc
          exact ⟨x, x0, x1, dz, ⟨hfr, (tb_sd (by omega)).mpr ⟨fx, b.1⟩, by rw [sd_del hx hz.1 dz (by omega)]; exact he⟩, by show (lst S k).2.2 + (ngW B (lst S k).2.1 f + cst B f l) ≤ _; omega⟩
      have hz' : zok B (lst S ((k + 1 : Nat) : Int)) := by
        rw [show ((k + 1 : Nat) : Int) = (k : Int) + 1 from rfl, en]
        exact ⟨or_128 hz.1 (by omega), hfr, by show 0 ≤ (lst S k).2.2 + S (52 + (lst S k).2.1) f + S 88 f; have := hz.2.2; omega⟩
      have len0 := Cmp_len hB h hz hc
      have len1 := Cmp_len hB h hz hc1
      rw [List.length_cons] at len0 len1
      have ih := gl_p hB h hS hL r (k + 1) hz' ⟨l1, by omega, (nx l1).mp hc1⟩
      have eg : gl S (r + 1) k = f :: gl S r (k + 1) := by show lfs S (lst S k) :: _ = _; rw [hf]
      rw [eg]
      refine ⟨(nx _).mpr ih.1, fun l hl => ?_, fun i hi => ?_⟩
      · have lenl := Cmp_len hB h hz hl
        cases l with
        | nil => exfalso; have lenl : (0 : Int) = m - pop (lst S k).1 := lenl; omega
        | cons f1 l2 =>
          have q := g0 f1 l2 hl
          by_cases z : f = f1
          · subst z; exact Or.inr ⟨rfl, ih.2.1 l2 ((nx l2).mp hl)⟩
          · left
            exact Classical.byContradiction (fun y => c f1 q.1.1 (by omega) q.2)
      · cases i with
        | zero => rw [Nat.add_zero, hf]; omega
        | succ i => rw [show k + (i + 1) = k + 1 + i by omega]; exact ih.2.2 i (by omega)
theorem enl_a (hB : Bd B) : ∀ (l : List Int) (g met : Int), (∀ y : Int, 0 ≤ y → y < 7 → tb g y → ¬ tb met y ∧ okB B y) → enl B g l → awl B met l
  | [], _, _, _, _ => trivial
  | f :: l, g, met, hg, he => by
    have n0 : 0 ≤ B 233 0 ∧ B 233 0 ≤ 7 := hB 233 0
    obtain ⟨hf, t, he⟩ := he
    have q := hg f hf.1 (by omega) t
    refine ⟨⟨hf, q.1, q.2⟩, enl_a hB l _ _ (fun y y0 y1 z => ?_) he⟩
    have z := (tb_del (by omega) (by omega)).mp z
    have q := hg y y0 y1 z.1
    exact ⟨fun w => ((tb_or (g := met) (f := f) (x := y) (by omega) (by omega)).mp w).elim q.1 z.2, q.2⟩
end
/-- both find the same feast -/
theorem feast_e {A A' B : rS} (hA : Bd A) (hB : Bd B) (h : IV A B) (hF : FD A A') : A' 85 2 = (TOTF B).1 ∧ A' 85 1 = (TOTF B).2.1 ∧ ∀ k : Int, 0 ≤ k → k < A' 85 1 → A' 86 k = (TOTF B).2.2 k := by
  have n0 : 0 ≤ B 233 0 ∧ B 233 0 ≤ 7 := hB 233 0
  have b4 : 0 ≤ B 236 11 ∧ B 236 11 ≤ 6 := hB 236 11
  have b7 : 0 ≤ B 236 7 ∧ B 236 7 ≤ 99 := hB 236 7
  have b9 : 0 ≤ B 236 9 ∧ B 236 9 ≤ 127 := hB 236 9
  have nn := iv_n h
  have st := iv_s h
  have hT := h.2.2.1.2.1
  obtain ⟨T, fr, fx, rfl⟩ := hF
  have b : 0 ≤ A 25 0 ∧ A 25 0 ≤ 7 := hA 25 0
  have wo : ∀ a j : Int, ¬ (a = 85 ∧ j = 3 ∨ a = 87 ∨ a = 88) → wgh A (A 25 0) a j = A a j := fun a j z => wg_o z
  have e85 : T 85 3 = bs (opn A) (A 25 0) := by rw [fr.2 85 3 (by omega)]; unfold wgh; rw [up_eq]
  have w85 : wgh A (A 25 0) 85 3 = bs (opn A) (A 25 0) := by unfold wgh; rw [up_eq]
  have C : CLF B T := by
    refine ⟨⟨by rw [fr.2 25 0 (by omega), wo 25 0 (by omega)]; exact nn.1, by rw [fr.2 25 13 (by omega), wo 25 13 (by omega)]; exact nn.2.2.2, by rw [fr.2 59 2 (by omega), wo 59 2 (by omega)]; exact st.2.1, by rw [fr.2 59 4 (by omega), wo 59 4 (by omega)]; exact st.2.2.2.1⟩, fun a k a0 a1 k0 k1 => ?_, fun k k0 k1 => ?_, ?_, fun k k0 k1 => ?_, fun g k g0 g1 gs k0 k1 kt kn => ?_⟩
    · have r := iv_f h k0 k1
      have e88 : T 88 k = mins (A 26 k) (pop (A 60 k)) := by rw [fr.2 88 k (by omega)]; unfold wgh; rw [up_ne (by omega), fl_i (by omega)]
      rw [fr.2 (52 + a) k (by omega), wo (52 + a) k (by omega), h.2.2.1.1 a k a0 a1 k0 k1, e88, r.1.1, r.2.2]; rfl
    · have r := iv_f h k0 k1
      have e87 : T 87 k = pop (A 60 k) := by rw [fr.2 87 k (by omega)]; unfold wgh; rw [up_ne (by omega), fl_o (by omega), fl_i (by omega)]
      rw [e87, r.2.2]; rfl
    · rw [e85]; exact bs7 b
    · rw [e85, bs_in (by omega) (by omega), nn.1]
      constructor
      · rintro ⟨k2, p1, p2, p3⟩
        have r := iv_f h k0 k2
        rw [r.2.2] at p1
        rw [st.1] at p2
        rw [r.1.1, st.2.2.2.2] at p3
        exact ⟨k2, p1, p2, p3⟩
      · rintro ⟨k2, p1, p2, p3⟩
        have r := iv_f h k0 k2
        refine ⟨k2, by rw [r.2.2]; exact p1, by rw [st.1]; exact p2, by rw [r.1.1, st.2.2.2.2]; exact p3⟩
    · have bO := bs7 (p := opn A) b
      rw [e85] at g1 gs kt
      exact fx g k g0 (by rw [w85]; omega) (by rw [w85]; exact (and0 (by omega)).mpr gs) k0 (by rw [wo 25 0 (by omega)]; omega) (by rw [w85]; exact kt) kn
  have bO := C.2.2.2.1
  generalize hL : (pkb (gnS T) (T 85 3 + 1)).1 = L
  generalize hm : (pkb (gnS T) (T 85 3 + 1)).2 = m
  have g85 : gnS T 85 3 = T 85 3 := fl_o (by omega)
  have g218 : ∀ x : Int, 0 ≤ x → x ≤ T 85 3 → gnS T 218 x = gnf T x := fun x x0 x1 => fl_i (by omega)
  have S1 : LAY (pkk (gnS T)) T L m := by
    have ek : pkk (gnS T) = mx_up (mx_up (gnS T) 85 2 L) 85 1 m := by unfold pkk pkS; rw [g85, hL, hm]
    rw [ek]
    refine ⟨fun a j z => ?_, fun x x0 x1 => ?_, by rw [up_ne (by omega), up_eq], up_eq⟩
    · rw [up_ne (by omega), up_ne (by omega)]; exact fl_o (by omega)
    · rw [up_ne (by omega), up_ne (by omega)]; exact g218 x x0 x1
  have pk := pk_p (S := gnS T) (T 85 3 + 1).toNat
  rw [show (((T 85 3 + 1).toNat : Nat) : Int) = T 85 3 + 1 by omega, hL, hm] at pk
  have pk1 : ∀ x : Int, 0 ≤ x → x ≤ T 85 3 → gnf T x < L ∨ (gnf T x = L ∧ m ≤ pop x) := fun x x0 x1 => by
    have q := pk.1 x x0 (by omega)
    rw [g218 x x0 x1] at q; exact q
  have lo : ∀ a j : Int, ¬ a = 86 → lay (pkk (gnS T)) a j = pkk (gnS T) a j := fun a j z => lay_o z
  rw [lo 85 2 (by omega), lo 85 1 (by omega), S1.2.2.1, S1.2.2.2]
  have R := sbt_b (B := B) n0.1 8 (B 236 9) (B 236 11) (B 236 7) 0 0 (fun _ => 0) (0, 0, B 248) (Int.le_refl _)
  have eR : TOTF B = sbt B 8 (B 236 9) (B 236 11) (B 236 7) 0 0 (fun _ => 0) (0, 0, B 248) := rfl
  rw [← eR] at R
  -- every walk of the reference's is no better than the class's
  have bound : ∀ l, l ≠ [] → vwl B 8 (B 236 9) (B 236 11) (B 236 7) l → (ltr B l < L ∨ (ltr B l = L ∧ m ≤ (flt B l).length)) ∧ B 236 11 < B 233 0 := fun l hne hv => by
    cases l with
    | nil => exact absurd rfl hne
    | cons f l =>
      have f1 := hv.1
      have hat : B 236 11 < B 233 0 := by have := iv_a h; omega
      have td : B 236 7 ≤ B 233 186 := by
        have := hv.2.1.2.2
        have ng := ngW_b hB (a := B 236 11) (f := f) (by omega)
        omega
      have len : ∀ (l : List Int) (k : Nat) (x y z : Int), vwl B k x y z l → l.length ≤ k := by
        intro l
        induction l with
        | nil => intro k _ _ _ _; exact Nat.zero_le _
        | cons a l ih =>
          intro k x y z hv
          cases k with
          | zero => exact hv.elim
          | succ k => have := ih k _ _ _ hv.2.2; rw [List.length_cons]; omega
      have v := (vwl_e hB (f :: l) 8 _ (B 236 11) (B 236 7) (len _ _ _ _ _ hv) td).mp hv
      obtain ⟨g, g0, g1, g2, g3⟩ := gain_w hB hT C hat v.1 v.2
      have q := pk1 g g0.1 g0.2
      rw [g1, g2] at q
      exact ⟨q, hat⟩
  have fl_len : ∀ l, (flt B l).length ≤ l.length := fun l => (flt_p B l).2.1
  rcases pk.2 with ⟨L0, m0⟩ | ⟨Lp, x, x0, x1, x2, x3⟩
  · -- nothing is to be had
    rcases R with ⟨e, _⟩ | ⟨l, c, bt', _⟩
    · rw [e]; exact ⟨L0, m0, fun k k0 k1 => by omega⟩
    · have q := (bound l c.1 c.2).1
      have bt' : btk (0 + ltr B l) (0 + l.length) 0 0 := bt'
      unfold btk at bt'
      exfalso; omega
  · have x1' : x ≤ T 85 3 := by omega
    rw [g218 x x0 x1'] at x2
    have hx : 0 ≤ x ∧ x < 128 := by omega
    have gp := gnf_p hB C hx (by omega)
    have hat : B 236 11 < B 233 0 := by
      have := iv_a h
      have w : wrt T x = L := by rw [← gp.2.2]; exact x2
      refine Classical.byContradiction (fun z => ?_)
      have nz : B 233 0 = 0 := by omega
      have w0 : wrt T x = 0 := by unfold wrt; rw [C.1.1, nz]; rfl
      omega
    have dk : 0 ≤ B 233 186 ∧ B 233 186 ≤ 99 := hB 233 186
    obtain ⟨l0, hl0, hc0⟩ := ffr_hi hB C 9 x (B 236 11) (by have := pop_r x; omega) hx gp.1 ⟨b4.1, hat⟩ (by omega)
    have e0 : mx_and x (mx_xor 0 (-1)) = x := by rw [show mx_xor 0 (-1) = -1 by decide, and_m1 hx]
    have ex0 : mx_and x 0 = 0 := b_ext (mx_and_r _ _) (by omega) (fun i hi => by rw [b_and, b_zero i hi, Bool.and_false])
    generalize hSS : pkk (gnS T) = S at *
    have z0 : lst S ((0 : Nat) : Int) = (0, B 236 11, B 236 7) := by
      show (0, S 59 4, S 59 2) = _
      rw [S1.1 59 4 (by omega), S1.1 59 2 (by omega), C.1.2.2.1, C.1.2.2.2]
    have cm0 : Cmp B T L m (lst S ((0 : Nat) : Int)) l0 := by
      rw [z0]
      exact ⟨x, ⟨hx.1, x1'⟩, ⟨x2, x3⟩, ex0, by show enl B (mx_and x (mx_xor 0 (-1))) l0; rw [e0]; exact hl0, by show B 236 7 + cst B (B 236 11) l0 ≤ _; rw [hc0]; exact gp.2.1⟩
    have zk : zok B (lst S ((0 : Nat) : Int)) := by rw [z0]; exact ⟨⟨Int.le_refl _, show (0 : Int) < 128 by decide⟩, ⟨b4.1, hat⟩, b7.1⟩
    have len0 := Cmp_len hB C zk cm0
    rw [z0] at len0
    have len0 : (l0.length : Int) = m - pop 0 := len0
    rw [pop_0] at len0
    have G := gl_p hB C S1 (by omega) m.toNat 0 zk ⟨l0, by omega, cm0⟩
    generalize hgl : gl S m.toNat 0 = lg at *
    have lgn : (lg.length : Int) = m := by rw [← hgl, gl_n]; omega
    -- the row laid is a walk of the reference's
    have cml := G.1
    rw [z0] at cml
    obtain ⟨y, y0, ⟨y1, y2⟩, _, y4, y5⟩ := cml
    have hy : 0 ≤ y ∧ y < 128 := by omega
    have ey : mx_and y (mx_xor 0 (-1)) = y := by rw [show mx_xor 0 (-1) = -1 by decide, and_m1 hy]
    have y4 : enl B (mx_and y (mx_xor 0 (-1))) lg := y4
    rw [ey] at y4
    have gpy := gnf_p hB C hy (by omega)
    have wy := enl_w hB C lg y hy y4
    have ltl : ltr B lg = L := by rw [← wy.1, ← gpy.2.2, y1]
    have lne : lg ≠ [] := fun z => by rw [z] at ltl; have ltl : (0 : Int) = L := ltl; omega
    have aw : awl B (B 236 9) lg := enl_a hB lg y _ (fun w w0 w1 t => by
      have q := (C.2.2.2.2.1 w w0 (by omega)).mp (gpy.1 w w0 w1 t)
      exact ⟨q.2.2.1, q.2.2.2⟩) y4
    have y5 : B 236 7 + cst B (B 236 11) lg ≤ B 233 186 := y5
    have c00 := cst_0 hB lg _ (B 236 11) aw
    have l7 := awl_n hB lg _ (by omega) aw
    have p9 := pop_r (B 236 9)
    have vl : vwl B 8 (B 236 9) (B 236 11) (B 236 7) lg := (vwl_e hB lg 8 _ _ _ (by omega) (by omega)).mpr ⟨aw, y5⟩
    rcases R with ⟨_, nb⟩ | ⟨l, c, bt', k1, k2, k3, k4⟩
    · have q := nb lg ⟨lne, vl⟩
      exfalso
      exact q (Or.inl (by show (0 : Int) < 0 + ltr B lg; omega))
    · have q := bound l c.1 c.2
      have kl := k4 lg ⟨lne, vl⟩
      have fq := fl_len l
      have e1 : ltr B l = L ∧ (l.length : Int) = m := by
        have z := kl.1
        unfold btk at z
        omega
      have ef : flt B l = l := (flt_p B l).2.2 (by omega)
      -- the reference's row is one of the class's best
      have td : B 236 7 ≤ B 233 186 := by omega
      have v := (vwl_e hB l 8 _ (B 236 11) (B 236 7) (by omega) td).mp c.2
      obtain ⟨g, g0, g1, g2, g3⟩ := gain_w hB hT C hat v.1 v.2
      rw [ef] at g2 g3
      have hg : 0 ≤ g ∧ g < 128 := by omega
      have eg : mx_and g (mx_xor 0 (-1)) = g := by rw [show mx_xor 0 (-1) = -1 by decide, and_m1 hg]
      have eg0 : mx_and g 0 = 0 := b_ext (mx_and_r _ _) (by omega) (fun i hi => by rw [b_and, b_zero i hi, Bool.and_false])
      have cl : Cmp B T L m (lst S ((0 : Nat) : Int)) l := by
        rw [z0]
        exact ⟨g, g0, ⟨by rw [g1]; exact e1.1, by rw [g2]; exact e1.2⟩, eg0, by show enl B (mx_and g (mx_xor 0 (-1))) l; rw [eg]; exact g3, v.2⟩
      have el : lg = l := lex_as lg l (by omega) (G.2.1 l cl) (kl.2 (by omega) (by omega))
      refine ⟨by rw [k1]; omega, by rw [k2]; omega, fun k k0 k1' => ?_⟩
      rw [k3 k k0 (by omega), if_neg (by omega), ← el, ← hgl, Int.sub_zero, gl_g S m.toNat 0 k.toNat (by omega)]
      show lay S 86 k = _
      unfold lay
      rw [fl_i (by rw [S1.2.2.2]; exact ⟨k0, k1'⟩)]
      unfold rowf
      have ne := G.2.2 k.toNat (by omega)
      rw [Nat.zero_add, show ((k.toNat : Nat) : Int) = k by omega] at ne ⊢
      rw [if_neg ne]
