/-! THE FEAST: what the class finds -/
abbrev del (g f : Int) : Int := mx_and g (mx_xor (mx_shl 1 f) (-1))
theorem del_pn : ∀ g : Fin 128, ∀ k : Fin 7, bt g.val k.val = true → (0 ≤ del g.val k.val ∧ del g.val k.val < 128) ∧ pop (del g.val k.val) + 1 = pop g.val := by decide +kernel
theorem del_p {g k : Int} (hg : 0 ≤ g ∧ g < 128) (hk : 0 ≤ k ∧ k < 7) (h : tb g k) : (0 ≤ del g k ∧ del g k < 128) ∧ pop (del g k) + 1 = pop g := by
  obtain ⟨g', rfl⟩ := Int.eq_ofNat_of_zero_le hg.1
  obtain ⟨k', rfl⟩ := Int.eq_ofNat_of_zero_le hk.1
  exact del_pn ⟨g', by omega⟩ ⟨k', by omega⟩ h
theorem sub_ln : ∀ a b : Fin 128, mx_and a.val b.val = a.val → a.val ≤ b.val := by decide +kernel
theorem b7_ext {a b : Int} (ha : 0 ≤ a ∧ a < 128) (hb : 0 ≤ b ∧ b < 128) (h : ∀ x : Int, 0 ≤ x → x < 7 → (tb a x ↔ tb b x)) : a = b := b_ext (by omega) (by omega) (fun i hi => by
  by_cases z : i < 7
  · have q := h i (by omega) (by omega)
    have q : bt a (i : Int).toNat = true ↔ bt b (i : Int).toNat = true := q
    rw [Int.toNat_natCast] at q
    exact Bool.eq_iff_iff.mpr q
  · rw [b_hi (n := 7) ha.1 (by omega) (by omega) (by omega), b_hi (n := 7) hb.1 (by omega) (by omega) (by omega)])
theorem sub_le {a b : Int} (ha : 0 ≤ a ∧ a < 128) (hb : 0 ≤ b ∧ b < 128) (h : ∀ x : Int, 0 ≤ x → x < 7 → tb a x → tb b x) : a ≤ b ∧ mx_and b a = a := by
  have e : mx_and a b = a := b7_ext (and_u (a := a) (b := b) 7 (by omega) ha (by omega)) ha (fun x x0 x1 => by
    show bt _ _ = true ↔ _
    rw [b_and, Bool.and_eq_true]
    exact ⟨fun z => z.1, fun z => ⟨z, h x x0 x1 z⟩⟩)
  have e2 : mx_and b a = mx_and a b := b_ext (mx_and_r _ _) (mx_and_r _ _) (fun i hi => by rw [b_and, b_and, Bool.and_comm])
  refine ⟨?_, e2.trans e⟩
  obtain ⟨a', rfl⟩ := Int.eq_ofNat_of_zero_le ha.1
  obtain ⟨b', rfl⟩ := Int.eq_ofNat_of_zero_le hb.1
  have := sub_ln ⟨a', by omega⟩ ⟨b', by omega⟩ e
  have : a' ≤ b' := this
  omega
theorem tb_sd {x d y : Int} (hy : 0 ≤ y ∧ y < 32) : tb (mx_and x (mx_xor d (-1))) y ↔ tb x y ∧ ¬ tb d y := by
  show bt _ _ = true ↔ _
  rw [b_and, b_xor, b_m1 _ (by omega), Bool.and_eq_true]
  constructor
  · rintro ⟨z1, z2⟩
    exact ⟨z1, fun z => by have z : bt d y.toNat = true := z; rw [z] at z2; cases z2⟩
  · rintro ⟨z1, z2⟩
    refine ⟨z1, ?_⟩
    rw [Bool.eq_false_iff.mpr z2]; rfl
theorem and0 {x O : Int} (hx : 0 ≤ x ∧ x < 128) : mx_and x (mx_xor O (-1)) = 0 ↔ ∀ y : Int, 0 ≤ y → y < 7 → tb x y → tb O y := by
  constructor
  · intro e y y0 y1 t
    refine Classical.byContradiction (fun z => ?_)
    have q := (tb_sd (x := x) (d := O) (y := y) (by omega)).mpr ⟨t, z⟩
    rw [e] at q
    have q : bt 0 y.toNat = true := q
    rw [b_zero _ (by omega)] at q; cases q
  · intro h
    refine b7_ext (and_u (a := x) 7 (by omega) hx (by omega)) (by omega) (fun y y0 y1 => ?_)
    rw [tb_sd (by omega)]
    constructor
    · intro z; exact absurd (h y y0 y1 z.1) z.2
    · intro z
      have z : bt 0 y.toNat = true := z
      rw [b_zero _ (by omega)] at z; cases z
/-- least of a row's chosen -/
def fmn (g : Int) (u : Int → Int) (s : Int) (N : Nat) : Int := fo (fun kk xx => if tb g kk then mx_min xx (u kk) else xx) s N
theorem fmn_le {g s : Int} {u : Int → Int} : ∀ N : Nat, fmn g u s N ≤ s ∧ ∀ k : Int, 0 ≤ k → k < N → tb g k → fmn g u s N ≤ u k
  | 0 => ⟨Int.le_refl _, fun k k0 k1 => by omega⟩
  | N + 1 => by
    have q := fmn_le (g := g) (s := s) (u := u) N
    have e : fmn g u s (N + 1) = if tb g (N : Int) then mx_min (fmn g u s N) (u N) else fmn g u s N := rfl
    rw [e]
    have m := mx_min_b (fmn g u s N) (u N)
    by_cases t : tb g (N : Int)
    · rw [if_pos t]
      refine ⟨by omega, fun k k0 k1 tk => ?_⟩
      by_cases z : k = N
      · rw [z]; omega
      · have := q.2 k k0 (by omega) tk; omega
    · rw [if_neg t]
      exact ⟨q.1, fun k k0 k1 tk => q.2 k k0 (by by_cases z : k = N; · exact absurd (z ▸ tk) t
                                                 · omega) tk⟩
theorem fmn_at {g s : Int} {u : Int → Int} : ∀ N : Nat, fmn g u s N = s ∨ ∃ k : Int, 0 ≤ k ∧ k < N ∧ tb g k ∧ fmn g u s N = u k
  | 0 => Or.inl rfl
  | N + 1 => by
    have q := fmn_at (g := g) (s := s) (u := u) N
    have e : fmn g u s (N + 1) = if tb g (N : Int) then mx_min (fmn g u s N) (u N) else fmn g u s N := rfl
    rw [e]
    have m := mx_min_b (fmn g u s N) (u N)
    by_cases t : tb g (N : Int)
    · rw [if_pos t]
      rcases m.1 with z | z
      · rw [z]
        rcases q with q | ⟨k, k0, k1, k2, k3⟩
        · exact Or.inl q
        · exact Or.inr ⟨k, k0, by omega, k2, k3⟩
      · exact Or.inr ⟨N, by omega, by omega, t, z⟩
    · rw [if_neg t]
      rcases q with q | ⟨k, k0, k1, k2, k3⟩
      · exact Or.inl q
      · exact Or.inr ⟨k, k0, by omega, k2, k3⟩
/-- a row of a set's fields -/
def enl (B : rS) : Int → List Int → Prop
  | g, [] => g = 0
  | g, f :: l => (0 ≤ f ∧ f < B 233 0) ∧ tb g f ∧ enl B (del g f) l
abbrev sbO (g O : Int) : Prop := ∀ y : Int, 0 ≤ y → y < 7 → tb g y → tb O y
/-- the class's table, over the reference's numbers -/
def CLF (B T : rS) : Prop := (T 25 0 = B 233 0 ∧ T 25 13 = B 233 186 ∧ T 59 2 = B 236 7 ∧ T 59 4 = B 236 11) ∧ (∀ a k : Int, 0 ≤ a → a < B 233 0 → 0 ≤ k → k < B 233 0 → T (52 + a) k + T 88 k = ngW B a k) ∧ (∀ k : Int, 0 ≤ k → k < B 233 0 → T 87 k = wtB B k) ∧ (0 ≤ T 85 3 ∧ T 85 3 < 128) ∧ (∀ k : Int, 0 ≤ k → k < 32 → (tb (T 85 3) k ↔ k < B 233 0 ∧ 0 < wtB B k ∧ ¬ tb (B 236 9) k ∧ okB B k)) ∧ (∀ g k : Int, 0 ≤ g → g ≤ T 85 3 → sbO g (T 85 3) → 0 ≤ k → k < B 233 0 → tb (T 85 3) k → ¬ tb g k → T (90 + g) k = ffr T g k)
section
variable {B T : rS}
theorem ffr_m (h : CLF B T) (g a : Int) : ffr T g a = fmn g (fun kk => T (52 + a) kk + T 88 kk + T (90 + del g kk) kk) (if g = 0 then 0 else 1000000) (B 233 0).toNat := by
  rw [← h.1.1]; rfl
theorem ffr_t (hB : Bd B) (h : CLF B T) {g a k : Int} (hg : 0 ≤ g ∧ g < 128) (hs : sbO g (T 85 3)) (ha : 0 ≤ a ∧ a < B 233 0) (hk : 0 ≤ k ∧ k < B 233 0) (ht : tb g k) : T (52 + a) k + T 88 k + T (90 + del g k) k = ngW B a k + ffr T (del g k) k := by
  have n0 : 0 ≤ B 233 0 ∧ B 233 0 ≤ 7 := hB 233 0
  obtain ⟨h1, h2, h3, h4, h5, h6⟩ := h
  have d := del_p hg (k := k) (by omega) ht
  have ds : sbO (del g k) (T 85 3) := fun y y0 y1 z => hs y y0 y1 ((tb_del (by omega) (by omega)).mp z).1
  have le := sub_le d.1 h4 ds
  rw [h2 a k ha.1 ha.2 hk.1 hk.2, h6 (del g k) k d.1.1 le.1 ds hk.1 hk.2 (hs k hk.1 (by omega) ht) (fun z => ((tb_del (by omega) (by omega)).mp z).2 rfl)]
theorem ffr_lo (hB : Bd B) (h : CLF B T) : ∀ (l : List Int) (g a : Int), 0 ≤ g ∧ g < 128 → sbO g (T 85 3) → 0 ≤ a ∧ a < B 233 0 → enl B g l → ffr T g a ≤ cst B a l
  | [], g, a, hg, hs, ha, he => by
    have he : g = 0 := he
    have q := (fmn_le (g := g) (s := if g = 0 then 0 else 1000000) (u := fun kk => T (52 + a) kk + T 88 kk + T (90 + del g kk) kk) (B 233 0).toNat).1
    rw [ffr_m h]
    rw [if_pos he] at q
    rw [if_pos he]
    exact q
  | f :: l, g, a, hg, hs, ha, he => by
    have n0 : 0 ≤ B 233 0 ∧ B 233 0 ≤ 7 := hB 233 0
    obtain ⟨hf, ht, he⟩ := he
    have d := del_p hg (k := f) (by omega) ht
    have q := (fmn_le (g := g) (s := if g = 0 then 0 else 1000000) (u := fun kk => T (52 + a) kk + T 88 kk + T (90 + del g kk) kk) (B 233 0).toNat).2 f hf.1 (by omega) ht
    have e := ffr_t hB h hg hs ha hf ht
    have i := ffr_lo hB h l (del g f) f d.1 (fun y y0 y1 z => hs y y0 y1 ((tb_del (by omega) (by omega)).mp z).1) hf he
    rw [ffr_m h]
    show _ ≤ ngW B a f + cst B f l
    have q : fmn g (fun kk => T (52 + a) kk + T 88 kk + T (90 + del g kk) kk) (if g = 0 then 0 else 1000000) (B 233 0).toNat ≤ T (52 + a) f + T 88 f + T (90 + del g f) f := q
    omega
theorem ffr_hi (hB : Bd B) (h : CLF B T) : ∀ (m : Nat) (g a : Int), pop g ≤ m → 0 ≤ g ∧ g < 128 → sbO g (T 85 3) → 0 ≤ a ∧ a < B 233 0 → ffr T g a < 1000000 → ∃ l, enl B g l ∧ cst B a l = ffr T g a := by
  intro m
  induction m with
  | zero =>
    intro g a hp hg hs ha hlt
    have p := pop_r g
    have g0 : g = 0 := by
      obtain ⟨x, rfl⟩ := Int.eq_ofNat_of_zero_le hg.1
      have := pop_n0 x (by omega) (by omega)
      omega
    refine ⟨[], g0, ?_⟩
    rw [ffr_m h]
    rcases fmn_at (g := g) (s := if g = 0 then 0 else 1000000) (u := fun kk => T (52 + a) kk + T 88 kk + T (90 + del g kk) kk) (B 233 0).toNat with e | ⟨k, k0, k1, k2, k3⟩
    · rw [e, if_pos g0]; rfl
    · rw [g0] at k2
      have n0 : 0 ≤ B 233 0 ∧ B 233 0 ≤ 7 := hB 233 0
      have k2 : bt 0 k.toNat = true := k2
      rw [b_zero _ (by omega)] at k2; cases k2
  | succ m ih =>
    intro g a hp hg hs ha hlt
    have n0 : 0 ≤ B 233 0 ∧ B 233 0 ≤ 7 := hB 233 0
    have e0 := ffr_m h g a
    rcases fmn_at (g := g) (s := if g = 0 then 0 else 1000000) (u := fun kk => T (52 + a) kk + T 88 kk + T (90 + del g kk) kk) (B 233 0).toNat with e | ⟨k, k0, k1, k2, k3⟩
    · by_cases g0 : g = 0
      · rw [if_pos g0] at e e0
        exact ⟨[], g0, by rw [e0, e]; rfl⟩
      · rw [if_neg g0] at e e0
        omega
    · have d := del_p hg (k := k) (by omega) k2
      have e := ffr_t hB h hg hs ha ⟨k0, by omega⟩ k2
      have k3 : fmn g (fun kk => T (52 + a) kk + T 88 kk + T (90 + del g kk) kk) (if g = 0 then 0 else 1000000) (B 233 0).toNat = T (52 + a) k + T 88 k + T (90 + del g k) k := k3
      have ng := ngW_b hB (a := a) (f := k) (by omega)
      obtain ⟨l, hl, hc⟩ := ih (del g k) k (by omega) d.1 (fun y y0 y1 z => hs y y0 y1 ((tb_del (by omega) (by omega)).mp z).1) ⟨k0, by omega⟩ (by omega)
      exact ⟨k :: l, ⟨⟨k0, by omega⟩, k2, hl⟩, by show ngW B a k + cst B k l = _; omega⟩
theorem sm_del {u : Int → Int} {g f : Int} (hf : 0 ≤ f ∧ f < 7) (ht : tb g f) : ∀ N : Nat, (N : Int) ≤ 7 → sm (fun kk => if tb g kk then u kk else 0) N = (if f < N then u f else 0) + sm (fun kk => if tb (del g f) kk then u kk else 0) N
  | 0, _ => by rw [if_neg (by omega)]; rfl
  | N + 1, hN => by
    rw [show ((N + 1 : Nat) : Int) = (N : Int) + 1 from rfl, sm_s (by omega), sm_s (by omega), sm_del hf ht N (by omega)]
    have q := tb_del (g := g) (f := f) (x := (N : Int)) hf (by omega)
    by_cases z : (N : Int) = f
    · rw [if_neg (show ¬ f < (N : Int) by omega), if_pos (show f < (N : Int) + 1 by omega), if_pos (by rw [z]; exact ht), if_neg (fun y => (q.mp y).2 z), z]; omega
    · by_cases t : tb g N
      · rw [if_pos t, if_pos (q.mpr ⟨t, z⟩)]
        by_cases y : f < (N : Int)
        · rw [if_pos y, if_pos (by omega)]; omega
        · rw [if_neg y, if_neg (by omega)]; omega
      · rw [if_neg t, if_neg (fun y => t (q.mp y).1)]
        by_cases y : f < (N : Int)
        · rw [if_pos y, if_pos (by omega)]; omega
        · rw [if_neg y, if_neg (by omega)]; omega
theorem enl_w (hB : Bd B) (h : CLF B T) : ∀ (l : List Int) (g : Int), 0 ≤ g ∧ g < 128 → enl B g l → wrt T g = ltr B l ∧ pop g = l.length
  | [], g, hg, he => by
    have he : g = 0 := he
    subst he
    refine ⟨?_, pop_0⟩
    have z : ∀ N : Nat, (N : Int) ≤ 7 → sm (fun kk => if tb 0 kk then T 87 kk else 0) N = 0 := by
      intro N
      induction N with
      | zero => intro _; rfl
      | succ N ih =>
        intro hN
        rw [show ((N + 1 : Nat) : Int) = (N : Int) + 1 from rfl, sm_s (by omega), ih (by omega), if_neg (fun z => by have z : bt 0 (N : Int).toNat = true := z; rw [b_zero _ (by omega)] at z; cases z)]; rfl
    have n0 : 0 ≤ B 233 0 ∧ B 233 0 ≤ 7 := hB 233 0
    have q := z (T 25 0).toNat (by rw [h.1.1]; omega)
    unfold wrt
    rw [show (((T 25 0).toNat : Nat) : Int) = T 25 0 by rw [h.1.1]; omega] at q
    exact q
  | f :: l, g, hg, he => by
    have n0 : 0 ≤ B 233 0 ∧ B 233 0 ≤ 7 := hB 233 0
    obtain ⟨hf, ht, he⟩ := he
    have d := del_p hg (k := f) (by omega) ht
    have i := enl_w hB h l (del g f) d.1 he
    have q := sm_del (u := fun kk => T 87 kk) (g := g) (f := f) (by omega) ht (T 25 0).toNat (by rw [h.1.1]; omega)
    rw [show (((T 25 0).toNat : Nat) : Int) = T 25 0 by rw [h.1.1]; omega, if_pos (by rw [h.1.1]; omega)] at q
    have w := h.2.2.1 f hf.1 hf.2
    refine ⟨?_, by rw [List.length_cons]; omega⟩
    have e1 : wrt T g = T 87 f + wrt T (del g f) := q
    show wrt T g = wtB B f + ltr B l
    omega
/-- zero-letter fields left out -/
def flt (B : rS) : List Int → List Int
  | [] => []
  | f :: l => if 0 < wtB B f then f :: flt B l else flt B l
theorem flt_p (B : rS) : ∀ l : List Int, ltr B (flt B l) = ltr B l ∧ (flt B l).length ≤ l.length ∧ ((flt B l).length = l.length → flt B l = l)
  | [] => ⟨rfl, Nat.le_refl _, fun _ => rfl⟩
  | f :: l => by
    have i := flt_p B l
    have w := (pop_r (B 236 (0 + f))).1
    have w : 0 ≤ wtB B f := w
    by_cases h : 0 < wtB B f
    · have e : flt B (f :: l) = f :: flt B l := if_pos h
      rw [e]
      refine ⟨by show wtB B f + _ = wtB B f + _; rw [i.1], by rw [List.length_cons, List.length_cons]; omega, fun z => by rw [List.length_cons, List.length_cons] at z; rw [i.2.2 (by omega)]⟩
    · have e : flt B (f :: l) = flt B l := if_neg h
      rw [e]
      refine ⟨by show _ = wtB B f + ltr B l; rw [i.1]; omega, by rw [List.length_cons]; omega, fun z => by rw [List.length_cons] at z; omega⟩
theorem flt_e (hB : Bd B) : ∀ (l : List Int) (met : Int), awl B met l → ∃ g, (0 ≤ g ∧ g < 128) ∧ enl B g (flt B l) ∧ ∀ x : Int, 0 ≤ x → x < 7 → tb g x → x < B 233 0 ∧ 0 < wtB B x ∧ ¬ tb met x ∧ okB B x
  | [], met, _ => ⟨0, by omega, rfl, fun x x0 x1 z => by have z : bt 0 x.toNat = true := z; rw [b_zero _ (by omega)] at z; cases z⟩
  | f :: l, met, h => by
    have n0 : 0 ≤ B 233 0 ∧ B 233 0 ≤ 7 := hB 233 0
    have hf := h.1.1
    obtain ⟨g, hg, he, hx⟩ := flt_e hB l _ h.2
    have hx' : ∀ x : Int, 0 ≤ x → x < 7 → tb g x → (x < B 233 0 ∧ 0 < wtB B x ∧ ¬ tb met x ∧ okB B x) ∧ x ≠ f := fun x x0 x1 z => by
      have q := hx x x0 x1 z
      have t := tb_or (g := met) (f := f) (x := x) (by omega) (by omega)
      exact ⟨⟨q.1, q.2.1, fun y => q.2.2.1 (t.mpr (Or.inl y)), q.2.2.2⟩, fun y => q.2.2.1 (t.mpr (Or.inr y))⟩
    by_cases w : 0 < wtB B f
    · have e : flt B (f :: l) = f :: flt B l := if_pos w
      have nf : ¬ tb g f := fun z => (hx' f hf.1 (by omega) z).2 rfl
      have o := or_p hg (k := f) (by omega) nf
      refine ⟨mx_or g (mx_shl 1 f), or_128 hg (by omega), ?_, fun x x0 x1 z => ?_⟩
      · rw [e]
        exact ⟨hf, (tb_or (by omega) (by omega)).mpr (Or.inr rfl), by rw [show del (mx_or g (mx_shl 1 f)) f = g from o.2]; exact he⟩
      · rcases (tb_or (by omega) (by omega)).mp z with y | y
        · exact (hx' x x0 x1 y).1
        · rw [y]; exact ⟨hf.2, w, h.1.2.1, h.1.2.2⟩
    · have e : flt B (f :: l) = flt B l := if_neg w
      exact ⟨g, hg, by rw [e]; exact he, fun x x0 x1 z => (hx' x x0 x1 z).1⟩
theorem cst_t (hB : Bd B) (hT : TRI B (B 233 0)) {a f met : Int} (ha : 0 ≤ a ∧ a < B 233 0) (hf : 0 ≤ f ∧ f < B 233 0) : ∀ (l : List Int), awl B met l → cst B a l ≤ B 235 (7 * a + f) + cst B f l
  | [], _ => by
    have : 0 ≤ B 235 (7 * a + f) ∧ B 235 (7 * a + f) ≤ 1000000 := hB 235 _
    show (0 : Int) ≤ _ + 0; omega
  | g :: l, h => by
    have t := hT a g f ha.1 ha.2 h.1.1.1 h.1.1.2 hf.1 hf.2
    show ngW B a g + cst B g l ≤ _ + (ngW B f g + cst B g l)
    unfold ngW; omega
theorem awl_f (hB : Bd B) : ∀ (l : List Int) (met met' : Int), (∀ x : Int, 0 ≤ x → x < 7 → tb met' x → tb met x) → awl B met l → awl B met' (flt B l)
  | [], _, _, _, _ => trivial
  | f :: l, met, met', hm, h => by
    have n0 : 0 ≤ B 233 0 ∧ B 233 0 ≤ 7 := hB 233 0
    have hf := h.1.1
    by_cases w : 0 < wtB B f
    · have e : flt B (f :: l) = f :: flt B l := if_pos w
      rw [e]
      refine ⟨⟨hf, fun z => h.1.2.1 (hm f hf.1 (by omega) z), h.1.2.2⟩, awl_f hB l _ _ (fun x x0 x1 z => ?_) h.2⟩
      have t := tb_or (g := met) (f := f) (x := x) (by omega) (by omega)
      rcases (tb_or (by omega) (by omega)).mp z with y | y
      · exact t.mpr (Or.inl (hm x x0 x1 y))
      · exact t.mpr (Or.inr y)
    · have e : flt B (f :: l) = flt B l := if_neg w
      rw [e]
      refine awl_f hB l _ _ (fun x x0 x1 z => ?_) h.2
      exact (tb_or (by omega) (by omega)).mpr (Or.inl (hm x x0 x1 z))
theorem flt_c (hB : Bd B) (hT : TRI B (B 233 0)) : ∀ (l : List Int) (met a : Int), 0 ≤ a ∧ a < B 233 0 → awl B met l → cst B a (flt B l) ≤ cst B a l
  | [], _, _, _, _ => Int.le_refl _
  | f :: l, met, a, ha, h => by
    have n0 : 0 ≤ B 233 0 ∧ B 233 0 ≤ 7 := hB 233 0
    have hf := h.1.1
    have i := flt_c hB hT l _ f hf h.2
    by_cases w : 0 < wtB B f
    · have e : flt B (f :: l) = f :: flt B l := if_pos w
      rw [e]
      show ngW B a f + _ ≤ ngW B a f + _
      omega
    · have e : flt B (f :: l) = flt B l := if_neg w
      rw [e]
      have q := cst_t hB hT ha hf (flt B l) (awl_f hB l _ _ (fun x _ _ z => z) h.2)
      have m := mM_r hB (f := f) (by omega)
      show _ ≤ ngW B a f + cst B f l
      unfold ngW; omega
/-- every walk's letters are some set's -/
theorem gain_w (hB : Bd B) (hT : TRI B (B 233 0)) (h : CLF B T) {l : List Int} (hne : B 236 11 < B 233 0) (hl : awl B (B 236 9) l) (hc : B 236 7 + cst B (B 236 11) l ≤ B 233 186) : ∃ g, (0 ≤ g ∧ g ≤ T 85 3) ∧ gnf T g = ltr B l ∧ pop g = (flt B l).length ∧ enl B g (flt B l) := by
  have b4 : 0 ≤ B 236 11 ∧ B 236 11 ≤ 6 := hB 236 11
  obtain ⟨g, hg, he, hx⟩ := flt_e hB l _ hl
  have hs : sbO g (T 85 3) := fun y y0 y1 z => (h.2.2.2.2.1 y y0 (by omega)).mpr (hx y y0 y1 z)
  have le := sub_le hg h.2.2.2.1 hs
  have lo := ffr_lo hB h (flt B l) g (B 236 11) hg hs ⟨b4.1, hne⟩ he
  have fc := flt_c hB hT l _ (B 236 11) ⟨b4.1, hne⟩ hl
  have w := enl_w hB h (flt B l) g hg he
  refine ⟨g, ⟨hg.1, le.1⟩, ?_, w.2, he⟩
  unfold gnf
  rw [if_pos ((and0 hg).mpr hs), h.1.2.1, h.1.2.2.1, h.1.2.2.2, if_neg (by omega), w.1, (flt_p B l).1]
theorem gnf_p (hB : Bd B) (h : CLF B T) {x : Int} (hx : 0 ≤ x ∧ x < 128) (hg : 0 ≤ gnf T x) : sbO x (T 85 3) ∧ B 236 7 + ffr T x (B 236 11) ≤ B 233 186 ∧ gnf T x = wrt T x := by
  unfold gnf at hg ⊢
  by_cases c : mx_and x (mx_xor (T 85 3) (-1)) = 0
  · rw [if_pos c, h.1.2.1, h.1.2.2.1, h.1.2.2.2] at hg ⊢
    by_cases c2 : B 233 186 < B 236 7 + ffr T x (B 236 11)
    · rw [if_pos c2] at hg; exact absurd hg (by decide)
    · rw [if_neg c2]; exact ⟨(and0 hx).mp c, by omega, rfl⟩
  · rw [if_neg c] at hg; exact absurd hg (by decide)
theorem pk_p {S : rS} : ∀ N : Nat, (∀ x : Int, 0 ≤ x → x < N → S 218 x < (pkb S N).1 ∨ (S 218 x = (pkb S N).1 ∧ (pkb S N).2 ≤ pop x)) ∧ (((pkb S N).1 = 0 ∧ (pkb S N).2 = 0) ∨ (0 < (pkb S N).1 ∧ ∃ x : Int, 0 ≤ x ∧ x < N ∧ S 218 x = (pkb S N).1 ∧ pop x = (pkb S N).2))
  | 0 => ⟨fun x x0 x1 => by omega, Or.inl ⟨rfl, rfl⟩⟩
  | N + 1 => by
    have q := pk_p (S := S) N
    rw [show ((N + 1 : Nat) : Int) = (N : Int) + 1 from rfl, pk_s (by omega)]
    have pn := (pop_r (N : Int)).1
    unfold pks
    by_cases c1 : (pkb S N).1 < S 218 N
    · rw [if_pos c1]
      refine ⟨fun x x0 x1 => ?_, Or.inr ⟨?_, N, by omega, by omega, rfl, rfl⟩⟩
      · show S 218 x < S 218 N ∨ (S 218 x = S 218 N ∧ pop N ≤ pop x)
        by_cases z : x = N
        · rw [z]; exact Or.inr ⟨rfl, Int.le_refl _⟩
        · have := q.1 x x0 (by omega); omega
      · show 0 < S 218 N
        rcases q.2 with z | z <;> omega
    · rw [if_neg c1]
      by_cases c2 : S 218 N = (pkb S N).1 ∧ pop N < (pkb S N).2
      · rw [if_pos c2]
        refine ⟨fun x x0 x1 => ?_, Or.inr ⟨?_, N, by omega, by omega, rfl, rfl⟩⟩
        · show S 218 x < S 218 N ∨ (S 218 x = S 218 N ∧ pop N ≤ pop x)
          by_cases z : x = N
          · rw [z]; exact Or.inr ⟨rfl, Int.le_refl _⟩
          · have := q.1 x x0 (by omega); omega
        · show 0 < S 218 N
          rcases q.2 with z | z <;> omega
      · rw [if_neg c2]
        refine ⟨fun x x0 x1 => ?_, ?_⟩
        · by_cases z : x = N
          · rw [z]; omega
          · exact q.1 x x0 (by omega)
        · rcases q.2 with z | ⟨z, x, x0, x1, x2⟩
          · exact Or.inl z
          · exact Or.inr ⟨z, x, x0, by omega, x2⟩
theorem fst1_l {P : Int → Prop} : ∀ n : Nat, (fst1 P n = -1 ∧ ∀ f : Int, 0 ≤ f → f < n → ¬ P f) ∨ ((0 ≤ fst1 P n ∧ fst1 P n < n) ∧ P (fst1 P n) ∧ ∀ f : Int, 0 ≤ f → f < fst1 P n → ¬ P f)
  | 0 => Or.inl ⟨rfl, fun f f0 f1 => by omega⟩
  | n + 1 => by
    have e : fst1 P ((n + 1 : Nat) : Int) = fs1 P n (fst1 P n) := rfl
    rw [e]
    rcases fst1_l (P := P) n with ⟨a, b⟩ | ⟨a, b, c⟩
    · rw [a]
      by_cases h : P n
      · rw [fs1_t h]; exact Or.inr ⟨by omega, h, fun f f0 f1 => b f f0 f1⟩
      · rw [fs1_f h]
        refine Or.inl ⟨rfl, fun f f0 f1 => ?_⟩
        by_cases z : f = n
        · rw [z]; exact h
        · exact b f f0 (by omega)
    · have e2 : fs1 P n (fst1 P n) = fst1 P n := if_neg (fun z => by have := z.1; omega)
      rw [e2]; exact Or.inr ⟨by omega, b, c⟩
end
