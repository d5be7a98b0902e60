/-! THE FEAST: what the depth first search finds -/
def wtB (B : rS) (f : Int) : Int := pop (B 236 (0 + f))
def ltr (B : rS) : List Int → Int
  | [] => 0
  | f :: l => wtB B f + ltr B l
def vwl (B : rS) : Nat → Int → Int → Int → List Int → Prop
  | _, _, _, _, [] => True
  | 0, _, _, _, _ :: _ => False
  | k + 1, met, a, t, f :: l => (0 ≤ f ∧ f < B 233 0) ∧ myW B met a t f ∧ vwl B k (mx_or met (mx_shl 1 f)) f (t + ngW B a f) l
def lexle : List Int → List Int → Prop
  | [], _ => True
  | _ :: _, [] => False
  | a :: l, b :: m => a < b ∨ (a = b ∧ lexle l m)
def btk (x d y e : Int) : Prop := y < x ∨ (x = y ∧ d < e)
def BOR (B : rS) (b : BS) (g d : Int) (P : Int → Int) (C : List Int → Prop) (r : BS) : Prop :=
  (r = b ∧ ∀ l, C l → ¬ btk (g + ltr B l) (d + l.length) b.1 b.2.1) ∨
  (∃ l, C l ∧ btk (g + ltr B l) (d + l.length) b.1 b.2.1 ∧ r.1 = g + ltr B l ∧ r.2.1 = d + l.length ∧ (∀ j : Int, 0 ≤ j → j < d + l.length → r.2.2 j = if j < d then P j else l.getD (j - d).toNat 0) ∧ ∀ l', C l' → ¬ btk (g + ltr B l') (d + l'.length) (g + ltr B l) (d + l.length) ∧ (ltr B l' = ltr B l → l'.length = l.length → lexle l l'))
theorem BOR_cg {B : rS} {b r : BS} {g d : Int} {P : Int → Int} {C C' : List Int → Prop} (h : BOR B b g d P C r) (e : ∀ l, C l ↔ C' l) : BOR B b g d P C' r := by
  rw [show C' = C from funext fun l => propext (e l).symm]; exact h
theorem BOR_0 {B : rS} {b : BS} {g d : Int} {P : Int → Int} : BOR B b g d P (fun _ => False) b := Or.inl ⟨rfl, fun _ h => h.elim⟩
theorem BOR_u {B : rS} {b r1 r : BS} {g d : Int} {P : Int → Int} {C1 C2 : List Int → Prop} (h1 : BOR B b g d P C1 r1) (h2 : BOR B r1 g d P C2 r) (hx : ∀ l l', C1 l → C2 l' → lexle l l') : BOR B b g d P (fun l => C1 l ∨ C2 l) r := by
  rcases h1 with ⟨e1, n1⟩ | ⟨l1, c1, b1, k1, k2, k3, k4⟩
  · subst e1
    rcases h2 with ⟨e2, n2⟩ | ⟨l2, c2, b2, q1, q2, q3, q4⟩
    · exact Or.inl ⟨e2, fun l hl => hl.elim (n1 l) (n2 l)⟩
    · refine Or.inr ⟨l2, Or.inr c2, b2, q1, q2, q3, fun l' hl => ?_⟩
      rcases hl with hl | hl
      · have z := n1 l' hl
        unfold btk at *
        exact ⟨by omega, fun e f => by omega⟩
      · exact q4 l' hl
  · rcases h2 with ⟨e2, n2⟩ | ⟨l2, c2, b2, q1, q2, q3, q4⟩
    · subst e2
      refine Or.inr ⟨l1, Or.inl c1, b1, k1, k2, k3, fun l' hl => ?_⟩
      rcases hl with hl | hl
      · exact k4 l' hl
      · have z := n2 l' hl
        rw [k1, k2] at z
        exact ⟨z, fun _ _ => hx l1 l' c1 hl⟩
    · rw [k1, k2] at b2
      refine Or.inr ⟨l2, Or.inr c2, by unfold btk at *; omega, q1, q2, q3, fun l' hl => ?_⟩
      rcases hl with hl | hl
      · have z := (k4 l' hl).1
        unfold btk at *
        exact ⟨by omega, fun e f => by omega⟩
      · exact q4 l' hl
/-- one field more -/
theorem BOR_1 {B : rS} {b : BS} {g d f : Int} {P : Int → Int} (hd : 0 ≤ d) : BOR B b g d P (fun l => l = [f]) (btr b (g + wtB B f) (d + 1) (ur P d f)) := by
  unfold btr
  by_cases h : b.1 < g + wtB B f ∨ (g + wtB B f = b.1 ∧ d + 1 < b.2.1)
  · rw [if_pos h]
    have e : ltr B [f] = wtB B f := by show wtB B f + 0 = _; omega
    refine Or.inr ⟨[f], rfl, by unfold btk; rw [e]; exact h, by rw [e], rfl, fun j j0 j1 => ?_, fun l' hl => ?_⟩
    · have j1 : j < d + 1 := j1
      show (if 0 ≤ j ∧ j < d + 1 then ur P d f j else b.2.2 j) = _
      rw [if_pos ⟨j0, j1⟩]
      unfold ur
      by_cases z : j = d
      · rw [if_pos z, if_neg (by omega), show (j - d).toNat = 0 by omega]; rfl
      · rw [if_neg z, if_pos (by omega)]
    · rw [hl]; exact ⟨by unfold btk; omega, fun _ _ => Or.inr ⟨rfl, trivial⟩⟩
  · rw [if_neg h]
    exact Or.inl ⟨rfl, fun l hl => by rw [hl]; unfold btk; rw [show ltr B [f] = wtB B f by show wtB B f + 0 = _; omega]; exact h⟩
theorem BOR_c {B : rS} {b r : BS} {g d f : Int} {P : Int → Int} {C : List Int → Prop} (hd : 0 ≤ d) (h : BOR B b (g + wtB B f) (d + 1) (ur P d f) C r) : BOR B b g d P (fun l => ∃ m, l = f :: m ∧ C m) r := by
  have el : ∀ m : List Int, g + ltr B (f :: m) = g + wtB B f + ltr B m := fun m => by show g + (wtB B f + ltr B m) = _; omega
  have en : ∀ m : List Int, d + ((f :: m).length : Int) = d + 1 + m.length := fun m => by rw [List.length_cons]; omega
  rcases h with ⟨e, n⟩ | ⟨m, c, b1, k1, k2, k3, k4⟩
  · refine Or.inl ⟨e, fun l hl => ?_⟩
    obtain ⟨m, rfl, hm⟩ := hl
    rw [el, en]; exact n m hm
  · refine Or.inr ⟨f :: m, ⟨m, rfl, c⟩, by rw [el, en]; exact b1, by rw [el]; exact k1, by rw [en]; exact k2, fun j j0 j1 => ?_, fun l' hl => ?_⟩
    · rw [en] at j1
      rw [k3 j j0 j1]
      by_cases z : j < d
      · rw [if_pos (by omega), if_pos z]; exact if_neg (by omega)
      · rw [if_neg z]
        by_cases y : j = d
        · rw [if_pos (by omega), show (j - d).toNat = 0 by omega]; exact if_pos y
        · rw [if_neg (by omega), show (j - d).toNat = (j - (d + 1)).toNat + 1 by omega]; rfl
    · obtain ⟨m', rfl, hm⟩ := hl
      rw [el, en, el, en]
      have q := k4 m' hm
      refine ⟨q.1, fun e1 e2 => Or.inr ⟨rfl, q.2 ?_ ?_⟩⟩
      · have e1 : wtB B f + ltr B m' = wtB B f + ltr B m := e1
        omega
      · rw [List.length_cons, List.length_cons] at e2; omega
theorem vis_b {B : rS} {k : Nat} {met a t g d f : Int} {P : Int → Int} {b : BS} (hd : 0 ≤ d) (hf : 0 ≤ f ∧ f < B 233 0) (ih : ∀ (met a t g d : Int) (P : Int → Int) (b : BS), 0 ≤ d → BOR B b g d P (fun l => l ≠ [] ∧ vwl B k met a t l) (sbt B k met a t g d P b)) : BOR B b g d P (fun l => ∃ m, l = f :: m ∧ vwl B (k + 1) met a t (f :: m)) (vis B k met a t g d P f b) := by
  unfold vis
  by_cases h : myW B met a t f
  · rw [show @ite BS (myW B met a t f) (Classical.propDecidable _) (sbt B k (mx_or met (mx_shl 1 f)) f (t + ngW B a f) (g + pop (B 236 (0 + f))) (d + 1) (ur P d f) (btr b (g + pop (B 236 (0 + f))) (d + 1) (ur P d f))) b = sbt B k (mx_or met (mx_shl 1 f)) f (t + ngW B a f) (g + pop (B 236 (0 + f))) (d + 1) (ur P d f) (btr b (g + pop (B 236 (0 + f))) (d + 1) (ur P d f)) from if_pos h]
    have q := BOR_u (BOR_1 (B := B) (b := b) (g := g) (f := f) (P := P) hd) (BOR_c hd (ih (mx_or met (mx_shl 1 f)) f (t + ngW B a f) (g + wtB B f) (d + 1) (ur P d f) (btr b (g + wtB B f) (d + 1) (ur P d f)) (by omega))) (fun l l' h1 h2 => by
      obtain ⟨m, rfl, _⟩ := h2
      rw [h1]; exact Or.inr ⟨rfl, trivial⟩)
    refine BOR_cg q (fun l => ?_)
    constructor
    · rintro (e | ⟨m, e, hm⟩)
      · exact ⟨[], e, hf, h, by unfold vwl; trivial⟩
      · exact ⟨m, e, hf, h, hm.2⟩
    · rintro ⟨m, e, hm⟩
      by_cases z : m = []
      · left; rw [e, z]
      · right; exact ⟨m, e, z, hm.2.2⟩
  · rw [show @ite BS (myW B met a t f) (Classical.propDecidable _) (sbt B k (mx_or met (mx_shl 1 f)) f (t + ngW B a f) (g + pop (B 236 (0 + f))) (d + 1) (ur P d f) (btr b (g + pop (B 236 (0 + f))) (d + 1) (ur P d f))) b = b from if_neg h]
    refine Or.inl ⟨rfl, fun l hl => ?_⟩
    obtain ⟨m, _, hm⟩ := hl
    exact absurd hm.2.1 h
theorem upf_b {B : rS} {k : Nat} {met a t g d : Int} {P : Int → Int} (hd : 0 ≤ d) (ih : ∀ (met a t g d : Int) (P : Int → Int) (b : BS), 0 ≤ d → BOR B b g d P (fun l => l ≠ [] ∧ vwl B k met a t l) (sbt B k met a t g d P b)) : ∀ (m : Nat) (c : Int) (b : BS), 0 ≤ c → c + m = B 233 0 → BOR B b g d P (fun l => ∃ f l', l = f :: l' ∧ c ≤ f ∧ vwl B (k + 1) met a t (f :: l')) (upf (vis B k met a t g d P) m c b)
  | 0, c, b, c0, e => Or.inl ⟨rfl, fun l hl => by
      obtain ⟨f, l', _, h1, h2⟩ := hl
      have := h2.1
      omega⟩
  | m + 1, c, b, c0, e => by
    have q := BOR_u (vis_b (b := b) (f := c) (met := met) (a := a) (t := t) (g := g) (P := P) hd ⟨c0, by omega⟩ ih) (upf_b (met := met) (a := a) (t := t) (g := g) (P := P) hd ih m (c + 1) (vis B k met a t g d P c b) (by omega) (by omega)) (fun l l' h1 h2 => by
      obtain ⟨x, rfl, _⟩ := h1
      obtain ⟨f, y, rfl, hf, _⟩ := h2
      exact Or.inl (by omega))
    refine BOR_cg q (fun l => ?_)
    constructor
    · rintro (⟨x, e, h⟩ | ⟨f, y, e, hf, h⟩)
      · exact ⟨c, x, e, Int.le_refl _, h⟩
      · exact ⟨f, y, e, by omega, h⟩
    · rintro ⟨f, y, e, hf, h⟩
      by_cases z : f = c
      · left; exact ⟨y, by rw [e, z], by rw [← z]; exact h⟩
      · right; exact ⟨f, y, e, by omega, h⟩
theorem sbt_b {B : rS} (hn : 0 ≤ B 233 0) : ∀ (k : Nat) (met a t g d : Int) (P : Int → Int) (b : BS), 0 ≤ d → BOR B b g d P (fun l => l ≠ [] ∧ vwl B k met a t l) (sbt B k met a t g d P b)
  | 0, met, a, t, g, d, P, b, hd => Or.inl ⟨rfl, fun l hl => by
      cases l with
      | nil => exact absurd rfl hl.1
      | cons f l => exact hl.2.elim⟩
  | k + 1, met, a, t, g, d, P, b, hd => by
    rw [sbt_s]
    refine BOR_cg (upf_b hd (sbt_b hn k) (B 233 0).toNat 0 b (Int.le_refl _) (by omega)) (fun l => ?_)
    constructor
    · rintro ⟨f, y, e, _, h⟩
      exact ⟨by rw [e]; exact List.cons_ne_nil _ _, by rw [e]; exact h⟩
    · rintro ⟨h1, h2⟩
      cases l with
      | nil => exact absurd rfl h1
      | cons f y => exact ⟨f, y, rfl, h2.1.1, h2⟩
theorem lex_as : ∀ l m : List Int, l.length = m.length → lexle l m → lexle m l → l = m
  | [], [], _, _, _ => rfl
  | [], _ :: _, e, _, _ => by cases e
  | _ :: _, [], e, _, _ => by cases e
  | a :: l, b :: m, e, h1, h2 => by
    rcases h1 with h1 | ⟨h1, h1'⟩
    · rcases h2 with h2 | ⟨h2, _⟩
      · omega
      · omega
    · rcases h2 with h2 | ⟨_, h2'⟩
      · omega
      · subst h1
        rw [lex_as l m (by rw [List.length_cons, List.length_cons] at e; omega) h1' h2']
/-! WALKS: fields not met, and the time they take -/
def okB (B : rS) (f : Int) : Prop := B 233 (1 + f) ≠ 1 ∨ B 236 10 < 5
def awl (B : rS) : Int → List Int → Prop
  | _, [] => True
  | met, f :: l => ((0 ≤ f ∧ f < B 233 0) ∧ ¬ tb met f ∧ okB B f) ∧ awl B (mx_or met (mx_shl 1 f)) l
def cst (B : rS) : Int → List Int → Int
  | _, [] => 0
  | a, f :: l => ngW B a f + cst B f l
theorem cst_0 {B : rS} (hB : Bd B) : ∀ (l : List Int) (met a : Int), awl B met l → 0 ≤ cst B a l
  | [], _, _, _ => Int.le_refl _
  | f :: l, met, a, h => by
    have n0 : 0 ≤ B 233 0 ∧ B 233 0 ≤ 7 := hB 233 0
    have q := ngW_b hB (a := a) (f := f) (by have := h.1.1; omega)
    have q2 := cst_0 hB l _ f h.2
    show 0 ≤ ngW B a f + cst B f l
    omega
theorem vwl_e {B : rS} (hB : Bd B) : ∀ (l : List Int) (k : Nat) (met a t : Int), l.length ≤ k → t ≤ B 233 186 → (vwl B k met a t l ↔ awl B met l ∧ t + cst B a l ≤ B 233 186)
  | [], k, met, a, t, _, ht => by
    constructor
    · intro _; exact ⟨trivial, by show t + 0 ≤ _; omega⟩
    · intro _; unfold vwl; trivial
  | f :: l, 0, met, a, t, h, ht => by rw [List.length_cons] at h; omega
  | f :: l, k + 1, met, a, t, h, ht => by
    rw [List.length_cons] at h
    constructor
    · rintro ⟨h1, h2, h3⟩
      have q := (vwl_e hB l k _ f _ (by omega) h2.2.2).mp h3
      exact ⟨⟨⟨h1, h2.1, h2.2.1⟩, q.1⟩, by show t + (ngW B a f + cst B f l) ≤ _; omega⟩
    · rintro ⟨h1, h2⟩
      have h2 : t + (ngW B a f + cst B f l) ≤ B 233 186 := h2
      have c0 := cst_0 hB l _ f h1.2
      exact ⟨h1.1.1, ⟨h1.1.2.1, h1.1.2.2, by omega⟩, (vwl_e hB l k _ f _ (by omega) (by omega)).mpr ⟨h1.2, by omega⟩⟩
theorem tb_or {g f x : Int} (hf : 0 ≤ f ∧ f < 7) (hx : 0 ≤ x ∧ x < 32) : tb (mx_or g (mx_shl 1 f)) x ↔ tb g x ∨ x = f := by
  obtain ⟨f', rfl⟩ := Int.eq_ofNat_of_zero_le hf.1
  show bt _ _ = true ↔ _
  rw [b_or, b_bit f' (by omega) (by omega), Bool.or_eq_true, decide_eq_true_eq]
  constructor
  · rintro (z | z)
    · exact Or.inl z
    · exact Or.inr (by omega)
  · rintro (z | z)
    · exact Or.inl z
    · exact Or.inr (by omega)
theorem tb_del {g f x : Int} (hf : 0 ≤ f ∧ f < 7) (hx : 0 ≤ x ∧ x < 32) : tb (mx_and g (mx_xor (mx_shl 1 f) (-1))) x ↔ tb g x ∧ x ≠ f := by
  obtain ⟨f', rfl⟩ := Int.eq_ofNat_of_zero_le hf.1
  show bt _ _ = true ↔ _
  rw [b_and, b_xor, b_bit f' (by omega) (by omega), b_m1 _ (by omega), Bool.and_eq_true]
  constructor
  · rintro ⟨z1, z2⟩
    refine ⟨z1, fun e => ?_⟩
    rw [show decide (x.toNat = f') = true from decide_eq_true (by omega)] at z2
    cases z2
  · rintro ⟨z1, z2⟩
    refine ⟨z1, ?_⟩
    rw [show decide (x.toNat = f') = false from decide_eq_false (by omega)]
    rfl
/-- a walk has at most seven fields -/
theorem awl_n {B : rS} (hB : Bd B) : ∀ (l : List Int) (met : Int), 0 ≤ met ∧ met < 128 → awl B met l → (l.length : Int) + pop met ≤ 7
  | [], met, hm, _ => by have := pop_7 (a := met) (by omega); show (0 : Int) + pop met ≤ 7; omega
  | f :: l, met, hm, h => by
    have n0 : 0 ≤ B 233 0 ∧ B 233 0 ≤ 7 := hB 233 0
    have hf := h.1.1
    have o := or_p hm (k := f) (by omega) h.1.2.1
    have q := awl_n hB l _ (or_128 hm (k := f) (by omega)) h.2
    rw [List.length_cons]; omega
