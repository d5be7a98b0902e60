/-! THE CLASS AND THE REFERENCE, side by side -/
def TXr (A B : rS) : Prop := A 1 1 = B 232 9 ∧ ∀ j : Int, A 2 j = B 240 j
def PAr (A : rS) (M : Int → Int) : Prop := (A 25 0 = M 0 ∧ A 25 6 = M 85 ∧ A 25 10 = M 113 ∧ A 25 13 = M 186) ∧
  (∀ f, 0 ≤ f → f < M 0 → (A 26 f = M (1 + f) ∧ A 27 f = M (8 + f) ∧ A 28 f = M (15 + f) ∧ A 29 f = M (22 + f)) ∧ ∀ p, 0 ≤ p → p < M (22 + f) → A (31 + f) p = M (29 + 8 * f + p)) ∧
  (∀ g, 0 ≤ g → g < M 85 → A 38 g = M (86 + g) ∧ A 39 g = M (95 + g) ∧ A 40 g = M (104 + g)) ∧
  (∀ w, 0 ≤ w → w < M 113 → A 41 w = M (114 + w) ∧ ∀ p, 0 ≤ p → p < M (114 + w) → A (43 + w) p = M (122 + 8 * w + p))
def WYr (A B : rS) (n : Int) : Prop := ∀ a b : Int, 0 ≤ a → a < n → 0 ≤ b → b < n → A (52 + a) b = B 235 (7 * a + b)
def TRI (B : rS) (n : Int) : Prop := ∀ a b c : Int, 0 ≤ a → a < n → 0 ≤ b → b < n → 0 ≤ c → c < n → B 235 (7 * a + b) ≤ B 235 (7 * a + c) + B 235 (7 * c + b)
def WBn (B : rS) (n : Int) : Prop := ∀ a b : Int, 0 ≤ a → a < n → 0 ≤ b → b < n → B 235 (7 * a + b) ≤ 3840 ∨ B 235 (7 * a + b) = 1000000
def SR (A : rS) (x : Int) (N : Int → Int) (n : Int) : Prop := (∀ f, 0 ≤ f → f < n → A (x + 1) f = N f) ∧ (∀ f, 0 ≤ f → n ≤ f → f < 7 → N f = 0) ∧ (A x 1 = N 9 ∧ A x 2 = N 7 ∧ A x 3 = N 8 ∧ A x 4 = N 11 ∧ A x 5 = N 10) ∧ (N 11 < n ∨ n = 0 ∧ N 11 = 0)
def NWr (A B : rS) : Prop := SR A 59 (B 236) (B 233 0)
def PSr (A B : rS) : Prop := A 61 0 = B 232 5 ∧ ∀ k : Int, 0 ≤ k → k < B 232 5 → SR A (63 + 2 * ((A 61 2 + 8 - B 232 5 + k) % 8)) (fun j => B 237 (12 * k + j)) (B 233 0)
def KPr (A B : rS) : Prop := ∀ k : Int, 0 ≤ k → k < 2 → A 80 k = B 239 k ∧ (A 80 k ≠ 0 → SR A (220 + 2 * k) (fun j => B 238 (12 * k + j)) (B 233 0))
def SGr (A B : rS) : Prop := A 81 0 = B 232 11 ∧ ∀ s : Int, 0 ≤ s → s < B 232 11 → A 82 s = B 241 (3 * s) ∧ A 83 s = B 241 (3 * s + 1) ∧ A 84 s = B 241 (3 * s + 2)
def SH1 (A B : rS) (s : Int) : Prop := (A (224 + 2 * s) 0 = 0 ∧ B 243 s = -1) ∨ (A (224 + 2 * s) 0 = 1 ∧ 0 ≤ B 243 s ∧ A (224 + 2 * s) 2 = B 243 s ∧ A (224 + 2 * s) 1 = B 242 s ∧ ∀ i : Int, 0 ≤ i → i < 24 → A (225 + 2 * s) i = B 244 (24 * s + i))
def SHr (A B : rS) : Prop := ∀ s : Int, 0 ≤ s → s < 4 → SH1 A B s
def IV (A B : rS) : Prop := TXr A B ∧ (PAr A (B 233) ∧ GE (B 233) ∧ LZ (B 233) ∧ CHp (B 233)) ∧ (WYr A B (B 233 0) ∧ TRI B (B 233 0) ∧ WBn B (B 233 0)) ∧ NWr A B ∧ PSr A B ∧ KPr A B ∧ SGr A B ∧ SHr A B
theorem SR_cg {A A' : rS} {x n : Int} {N N' : Int → Int} (h : SR A x N n) (h1 : ∀ j : Int, 1 ≤ j → j ≤ 5 → A' x j = A x j) (h2 : ∀ j : Int, A' (x + 1) j = A (x + 1) j) (h3 : ∀ j : Int, 0 ≤ j → j < 12 → N' j = N j) (hn : 0 ≤ n ∧ n ≤ 7) : SR A' x N' n := by
  obtain ⟨a, b, ⟨c1, c2, c3, c4, c5⟩, d⟩ := h
  refine ⟨fun f f0 f1 => by rw [h2, h3 f f0 (by omega)]; exact a f f0 f1, fun f f0 f1 f2 => by rw [h3 f f0 (by omega)]; exact b f f0 f1 f2, ?_, by rw [h3 11 (by omega) (by omega)]; exact d⟩
  rw [h1 1 (by omega) (by omega), h1 2 (by omega) (by omega), h1 3 (by omega) (by omega), h1 4 (by omega) (by omega), h1 5 (by omega) (by omega), h3 9 (by omega) (by omega), h3 7 (by omega) (by omega), h3 8 (by omega) (by omega), h3 11 (by omega) (by omega), h3 10 (by omega) (by omega)]
  exact ⟨c1, c2, c3, c4, c5⟩
section
variable {A A' B B' : rS}
theorem TX_cg (h : TXr A B) (h1 : ∀ a j : Int, (a = 1 ∧ j = 1) ∨ a = 2 → A' a j = A a j) (h2 : ∀ a j : Int, (a = 232 ∧ j = 9) ∨ a = 240 → B' a j = B a j) : TXr A' B' :=
  ⟨by rw [h1 1 1 (by omega), h2 232 9 (by omega)]; exact h.1, fun j => by rw [h1 2 j (by omega), h2 240 j (by omega)]; exact h.2 j⟩
theorem PA_cg {M : Int → Int} (h : PAr A M) (hb : PB M) (h1 : ∀ a j : Int, 25 ≤ a ∧ a ≤ 50 → A' a j = A a j) : PAr A' M := by
  obtain ⟨⟨a, b, c, d⟩, e, f, g⟩ := h
  refine ⟨by rw [h1 25 0 (by omega), h1 25 6 (by omega), h1 25 10 (by omega), h1 25 13 (by omega)]; exact ⟨a, b, c, d⟩, fun x x0 x1 => ?_, fun x x0 x1 => ?_, fun x x0 x1 => ?_⟩
  · rw [h1 26 x (by omega), h1 27 x (by omega), h1 28 x (by omega), h1 29 x (by omega)]
    exact ⟨(e x x0 x1).1, fun p p0 p1 => by rw [h1 (31 + x) p (by omega)]; exact (e x x0 x1).2 p p0 p1⟩
  · rw [h1 38 x (by omega), h1 39 x (by omega), h1 40 x (by omega)]; exact f x x0 x1
  · rw [h1 41 x (by omega)]
    exact ⟨(g x x0 x1).1, fun p p0 p1 => by rw [h1 (43 + x) p (by omega)]; exact (g x x0 x1).2 p p0 p1⟩
theorem WY_cg {n : Int} (h : WYr A B n) (hn : n ≤ 7) (h1 : ∀ a j : Int, 52 ≤ a ∧ a ≤ 58 → A' a j = A a j) (h2 : ∀ j : Int, B' 235 j = B 235 j) : WYr A' B' n := fun a b a0 a1 b0 b1 => by rw [h1 (52 + a) b (by omega), h2]; exact h a b a0 a1 b0 b1
theorem TRI_cg {n : Int} (h : TRI B n) (h2 : ∀ j : Int, B' 235 j = B 235 j) : TRI B' n := fun a b c a0 a1 b0 b1 c0 c1 => by rw [h2, h2, h2]; exact h a b c a0 a1 b0 b1 c0 c1
theorem WB_cg {n : Int} (h : WBn B n) (h2 : ∀ j : Int, B' 235 j = B 235 j) : WBn B' n := fun a b a0 a1 b0 b1 => by rw [h2]; exact h a b a0 a1 b0 b1
theorem NW_cg (h : NWr A B) (hn : 0 ≤ B 233 0 ∧ B 233 0 ≤ 7) (h1 : ∀ a j : Int, 59 ≤ a ∧ a ≤ 60 → A' a j = A a j) (h2 : ∀ a j : Int, a = 236 ∨ a = 233 → B' a j = B a j) : NWr A' B' := by
  unfold NWr
  rw [h2 233 0 (by omega)]
  exact SR_cg h (fun j _ _ => h1 59 j (by omega)) (fun j => h1 60 j (by omega)) (fun j _ _ => h2 236 j (by omega)) hn
theorem PS_cg (h : PSr A B) (hn : 0 ≤ B 233 0 ∧ B 233 0 ≤ 7) (h1 : ∀ a j : Int, a = 61 ∨ 63 ≤ a ∧ a ≤ 78 → A' a j = A a j) (h2 : ∀ a j : Int, a = 237 ∨ a = 233 ∨ a = 232 ∧ j = 5 → B' a j = B a j) : PSr A' B' := by
  unfold PSr
  rw [h1 61 0 (by omega), h1 61 2 (by omega), h2 232 5 (by omega), h2 233 0 (by omega)]
  refine ⟨h.1, fun k k0 k1 => ?_⟩
  have q := h.2 k k0 k1
  generalize hi : (A 61 2 + 8 - B 232 5 + k) % 8 = i at *
  exact SR_cg q (fun j _ _ => h1 _ j (by omega)) (fun j => h1 _ j (by omega)) (fun j _ _ => h2 237 _ (by omega)) hn
theorem KP_cg (h : KPr A B) (hn : 0 ≤ B 233 0 ∧ B 233 0 ≤ 7) (h1 : ∀ a j : Int, a = 80 ∨ 220 ≤ a ∧ a ≤ 223 → A' a j = A a j) (h2 : ∀ a j : Int, a = 238 ∨ a = 233 ∨ a = 239 → B' a j = B a j) : KPr A' B' := by
  intro k k0 k1
  have q := h k k0 k1
  rw [h1 80 k (by omega), h2 239 k (by omega), h2 233 0 (by omega)]
  exact ⟨q.1, fun z => SR_cg (q.2 z) (fun j _ _ => h1 _ j (by omega)) (fun j => h1 _ j (by omega)) (fun j _ _ => h2 238 _ (by omega)) hn⟩
theorem SG_cg (h : SGr A B) (h1 : ∀ a j : Int, 81 ≤ a ∧ a ≤ 84 → A' a j = A a j) (h2 : ∀ a j : Int, a = 241 ∨ a = 232 ∧ j = 11 → B' a j = B a j) : SGr A' B' := by
  unfold SGr
  rw [h1 81 0 (by omega), h2 232 11 (by omega)]
  exact ⟨h.1, fun s s0 s1 => by rw [h1 82 s (by omega), h1 83 s (by omega), h1 84 s (by omega), h2 241 _ (by omega), h2 241 _ (by omega), h2 241 _ (by omega)]; exact h.2 s s0 s1⟩
theorem SH1_cg {s : Int} (h : SH1 A B s) (h1 : ∀ j : Int, A' (224 + 2 * s) j = A (224 + 2 * s) j) (h1' : ∀ j : Int, A' (225 + 2 * s) j = A (225 + 2 * s) j) (h2 : B' 242 s = B 242 s) (h3 : B' 243 s = B 243 s) (h4 : ∀ j : Int, 24 * s ≤ j → j < 24 * s + 24 → B' 244 j = B 244 j) : SH1 A' B' s := by
  unfold SH1
  rw [h1 0, h1 1, h1 2, h2, h3]
  rcases h with h | ⟨a, b, c, d, e⟩
  · exact Or.inl h
  · exact Or.inr ⟨a, b, c, d, fun i i0 i1 => by rw [h1', h4 _ (by omega) (by omega)]; exact e i i0 i1⟩
theorem SH_cg (h : SHr A B) (h1 : ∀ a j : Int, 224 ≤ a ∧ a ≤ 231 → A' a j = A a j) (h2 : ∀ a j : Int, 242 ≤ a ∧ a ≤ 244 → B' a j = B a j) : SHr A' B' := fun s s0 s1 =>
  SH1_cg (h s s0 s1) (fun j => h1 _ j (by omega)) (fun j => h1 _ j (by omega)) (h2 _ _ (by omega)) (h2 _ _ (by omega)) (fun j _ _ => h2 _ j (by omega))
/-- the reference's other cells and the class's other cells don't matter -/
abbrev PBB (hB : Bd B) : PB (B 233) := ⟨hB 233 0, hB 233 85, hB 233 113⟩
theorem IV_cg (h : IV A B) (hB : Bd B) (h1 : ∀ a j : Int, (a = 1 ∧ j = 1) ∨ a = 2 ∨ 25 ≤ a ∧ a ≤ 84 ∨ 220 ≤ a ∧ a ≤ 231 → A' a j = A a j) (h2 : ∀ a j : Int, (a = 232 ∧ (j = 5 ∨ j = 9 ∨ j = 11)) ∨ a = 233 ∨ 235 ≤ a ∧ a ≤ 244 → B' a j = B a j) : IV A' B' := by
  obtain ⟨a, ⟨b1, b2, b3, b4⟩, ⟨c1, c2, c3⟩, d, e, f, g, i⟩ := h
  have n0 : 0 ≤ B 233 0 ∧ B 233 0 ≤ 7 := hB 233 0
  have e233 : B' 233 = B 233 := funext fun j => h2 233 j (by omega)
  refine ⟨TX_cg a (fun a j h => h1 a j (by omega)) (fun a j h => h2 a j (by omega)), ?_, ?_, NW_cg d n0 (fun a j h => h1 a j (by omega)) (fun a j h => h2 a j (by omega)), PS_cg e n0 (fun a j h => h1 a j (by omega)) (fun a j h => h2 a j (by omega)), KP_cg f n0 (fun a j h => h1 a j (by omega)) (fun a j h => h2 a j (by omega)), SG_cg g (fun a j h => h1 a j (by omega)) (fun a j h => h2 a j (by omega)), SH_cg i (fun a j h => h1 a j (by omega)) (fun a j h => h2 a j (by omega))⟩
  · rw [e233]; exact ⟨PA_cg b1 (PBB hB) (fun a j h => h1 a j (by omega)), b2, b3, b4⟩
  · rw [e233]; exact ⟨WY_cg c1 n0.2 (fun a j h => h1 a j (by omega)) (fun j => h2 235 j (by omega)), TRI_cg c2 (fun j => h2 235 j (by omega)), WB_cg c3 (fun j => h2 235 j (by omega))⟩
end
/-! answers -/
section
variable {A B : rS}
theorem iv_f (h : IV A B) {f : Int} (f0 : 0 ≤ f) (f1 : f < B 233 0) : (A 26 f = B 233 (1 + f) ∧ A 27 f = B 233 (8 + f) ∧ A 28 f = B 233 (15 + f) ∧ A 29 f = B 233 (22 + f)) ∧ (∀ p, 0 ≤ p → p < B 233 (22 + f) → A (31 + f) p = B 233 (29 + 8 * f + p)) ∧ A 60 f = B 236 (0 + f) := ⟨(h.2.1.1.2.1 f f0 f1).1, (h.2.1.1.2.1 f f0 f1).2, by rw [Int.zero_add]; exact h.2.2.2.1.1 f f0 f1⟩
theorem iv_n (h : IV A B) : A 25 0 = B 233 0 ∧ A 25 6 = B 233 85 ∧ A 25 10 = B 233 113 ∧ A 25 13 = B 233 186 := h.2.1.1.1
theorem iv_s (h : IV A B) : A 59 1 = B 236 9 ∧ A 59 2 = B 236 7 ∧ A 59 3 = B 236 8 ∧ A 59 4 = B 236 11 ∧ A 59 5 = B 236 10 := h.2.2.2.1.2.2.1
theorem iv_a (h : IV A B) : B 236 11 < B 233 0 ∨ B 233 0 = 0 ∧ B 236 11 = 0 := h.2.2.2.1.2.2.2
theorem e_field (hA : Bd A) (hB : Bd B) (h : IV A B) {f k : Int} : v_X10_field A f k = v_X11_field B f k := by
  have n := iv_n h
  have s := iv_s h
  have n0 : 0 ≤ B 233 0 ∧ B 233 0 ≤ 7 := hB 233 0
  unfold v_X10_field v_X11_field
  by_cases hf : 0 ≤ f ∧ f < A 25 0
  · have q := iv_f h (f := f) hf.1 (by omega)
    rw [if_pos hf, if_pos (show 0 ≤ f ∧ f ≤ B 233 0 - 1 by omega), q.1.1, q.1.2.1, q.1.2.2.1, q.1.2.2.2, q.2.2, s.1]
    by_cases k0 : k = 0
    · rw [if_pos k0, if_pos k0, k0]; exact congrArg (B 233) (by omega)
    rw [if_neg k0, if_neg k0]
    by_cases k1 : k = 1
    · rw [if_pos k1, if_pos k1, k1]; exact congrArg (B 233) (by omega)
    rw [if_neg k1, if_neg k1]
    by_cases k2 : k = 2
    · rw [if_pos k2, if_pos k2, k2]; exact congrArg (B 233) (by omega)
    rw [if_neg k2, if_neg k2]
    by_cases k3 : k = 3
    · rw [if_pos k3, if_pos k3, k3]; exact congrArg (B 233) (by omega)
    rw [if_neg k3, if_neg k3]
    by_cases k4 : k = 4
    · rw [if_pos k4, if_pos k4]
    rw [if_neg k4, if_neg k4]
    by_cases k5 : k = 5
    · rw [if_pos k5, if_pos k5]
    rw [if_neg k5, if_neg k5]
    by_cases k6 : k = 6
    · rw [if_pos k6, if_pos k6]
    rw [if_neg k6, if_neg k6]
    by_cases k7 : k = 7
    · rw [if_pos k7, if_pos k7]
      by_cases t : tb (B 236 9) f
      · rw [if_pos t, (b_tst (by omega)).mpr t]
      · rw [if_neg t, (b_tst0 (by omega)).mpr (Bool.eq_false_iff.mpr t)]
    · rw [if_neg k7, if_neg k7]
  · rw [if_neg hf, if_neg (by omega)]
theorem e_letter (hA : Bd A) (hB : Bd B) (h : IV A B) {f q : Int} : v_X10_letter A f q = v_X11_letter B f q := by
  have n := iv_n h
  unfold v_X10_letter v_X11_letter
  by_cases hf : 0 ≤ f ∧ f < A 25 0
  · have r := iv_f h (f := f) hf.1 (by omega)
    rw [if_pos (show 0 ≤ f ∧ f ≤ B 233 0 - 1 by omega), r.1.2.2.2, r.2.2]
    by_cases hq : 0 ≤ q ∧ q < B 233 (22 + f)
    · rw [if_pos ⟨hf, hq⟩, if_pos (show 0 ≤ q ∧ q ≤ B 233 (22 + f) - 1 by omega)]
      by_cases t : tb (B 236 (0 + f)) q
      · rw [if_pos t, if_pos t, r.2.1 q hq.1 hq.2]
      · rw [if_neg t, if_neg t]
    · rw [if_neg (fun z => hq z.2), if_neg (by omega)]
  · rw [if_neg (fun z => hf z.1), if_neg (by omega)]
theorem e_gate (hA : Bd A) (hB : Bd B) (h : IV A B) {g k : Int} : v_X10_gate A g k = v_X11_gate B g k := by
  have n := iv_n h
  unfold v_X10_gate v_X11_gate
  by_cases hf : 0 ≤ g ∧ g < A 25 6
  · have r := h.2.1.1.2.2.1 g hf.1 (by omega)
    rw [if_pos hf, if_pos (show 0 ≤ g ∧ g ≤ B 233 85 - 1 by omega), r.1, r.2.1, r.2.2]
    by_cases k0 : k = 0
    · rw [if_pos k0, if_pos (by omega), k0]; exact congrArg (B 233) (by omega)
    rw [if_neg k0]
    by_cases k1 : k = 1
    · rw [if_pos k1, if_pos (by omega), k1]; exact congrArg (B 233) (by omega)
    rw [if_neg k1]
    by_cases k2 : k = 2
    · rw [if_pos k2, if_pos (by omega), k2]; exact congrArg (B 233) (by omega)
    rw [if_neg k2, if_neg (by omega)]
  · rw [if_neg hf, if_neg (by omega)]
theorem e_word (hA : Bd A) (hB : Bd B) (h : IV A B) {g q : Int} : v_X10_word A g q = v_X11_word B g q := by
  have n := iv_n h
  unfold v_X10_word v_X11_word
  by_cases hf : 0 ≤ g ∧ g < A 25 10
  · have r := h.2.1.1.2.2.2 g hf.1 (by omega)
    rw [if_neg (by omega), if_pos hf.2, if_pos (show 0 ≤ g ∧ g ≤ B 233 113 - 1 by omega), r.1]
    have b := bdc_233_114 hB g
    by_cases k0 : q = -1
    · rw [if_pos k0, if_pos (by omega), if_pos k0]
    rw [if_neg k0]
    by_cases k1 : 0 ≤ q ∧ q < B 233 (114 + g)
    · rw [if_neg (by omega), if_pos k1.2, if_pos (by omega), if_neg k0]; exact r.2 q k1.1 k1.2
    · rw [if_neg (show ¬ (-1 ≤ q ∧ q ≤ B 233 (114 + g) - 1) by omega)]
      by_cases k2 : q < 0
      · rw [if_pos k2]
      · rw [if_neg k2, if_neg (by omega)]
  · rw [if_neg (show ¬ (0 ≤ g ∧ g ≤ B 233 113 - 1) by omega)]
    by_cases k2 : g < 0
    · rw [if_pos k2]
    · rw [if_neg k2, if_neg (by omega)]
theorem e_as (hA : Bd A) (hB : Bd B) (h : IV A B) {f k : Int} : v_X10_as A f k = v_X11_as B f k := by
  have n := iv_n h
  unfold v_X10_as v_X11_as
  by_cases hf : 0 ≤ f ∧ f < A 25 0
  · have r := iv_f h (f := f) hf.1 (by omega)
    have n0 : 0 ≤ B 233 0 ∧ B 233 0 ≤ 7 := hB 233 0
    have b := bdc_233_1 hB f
    rw [if_pos hf, if_pos (show 0 ≤ f ∧ f ≤ B 233 0 - 1 by omega), r.1.1, show B 233 (1 + f) + 1 - 1 = B 233 (1 + f) by omega]
    by_cases hk : 0 ≤ k ∧ k ≤ 4
    · rw [if_neg (by omega), if_neg (by omega), if_pos hk]
      by_cases hc : k = 0 ∨ (k = 1 ∧ B 233 (1 + f) ≠ 3) ∨ (k ≠ 0 ∧ k ≠ 1 ∧ B 233 (1 + f) = k - 1)
      · rw [if_pos hc]
        by_cases k0 : k = 0
        · rw [if_pos k0]
        rw [if_neg k0]
        by_cases k1 : k = B 233 (1 + f) + 1
        · rw [if_pos k1]
        rw [if_neg k1, if_pos (by omega), if_pos (by omega)]
      · rw [if_neg hc, if_neg (by omega), if_neg (by omega)]
        by_cases k1 : k = 1
        · rw [if_pos k1, if_neg (by omega)]
        · rw [if_neg k1]
    · rw [if_neg hk]
      by_cases k0 : k < 0
      · rw [if_pos k0]
      · rw [if_neg k0, if_pos (by omega)]
  · rw [if_neg hf, if_neg (by omega)]
theorem e_far (hA : Bd A) (hB : Bd B) (h : IV A B) {f g : Int} : v_X10_far A f g = v_X11_far B f g := by
  have n := iv_n h
  unfold v_X10_far v_X11_far
  by_cases hf : 0 ≤ f ∧ f < A 25 0
  · rw [if_pos hf, if_pos (show 0 ≤ f ∧ f ≤ B 233 0 - 1 by omega)]
    by_cases hg : 0 ≤ g ∧ g < A 25 0
    · rw [if_pos hg, if_pos (show 0 ≤ g ∧ g ≤ B 233 0 - 1 by omega), h.2.2.1.1 f g hf.1 (by omega) hg.1 (by omega)]
    · rw [if_neg hg, if_neg (by omega)]
  · rw [if_neg hf, if_neg (by omega)]
theorem e_kinds (hA : Bd A) (hB : Bd B) (h : IV A B) {f : Int} : (if 0 ≤ f ∧ f < A 25 0 then bs (fun kk => ∀ xx, 0 ≤ xx → xx < A 81 0 → A 82 xx = f → mins kk (A 83 xx) = A 84 xx) 4 else -2) = (if 0 ≤ f ∧ f ≤ B 233 0 - 1 then bs (fun kk => ∀ xx, 0 ≤ xx → xx < B 232 11 → B 241 (3 * xx) = f → mins kk (B 241 (3 * xx + 1)) = B 241 (3 * xx + 2)) 4 else -2) := by
  have n := iv_n h
  have g := h.2.2.2.2.2.2.1
  by_cases hf : 0 ≤ f ∧ f < A 25 0
  · rw [if_pos hf, if_pos (by omega)]
    refine bs_cg 4 (fun k k0 k1 => ?_)
    constructor
    · intro z x x0 x1 x2
      have q := g.2 x x0 x1
      have z := z x x0 (by rw [g.1]; exact x1) (by rw [q.1]; exact x2)
      rw [q.2.1, q.2.2] at z; exact z
    · intro z x x0 x1 x2
      have x1 : x < B 232 11 := by rw [← g.1]; exact x1
      have q := g.2 x x0 x1
      rw [q.2.1, q.2.2]
      exact z x x0 x1 (by rw [← q.1]; exact x2)
  · rw [if_neg hf, if_neg (by omega)]
theorem e_look (hA : Bd A) (hB : Bd B) (h : IV A B) {s i : Int} : v_X10_look A s i = v_X11_look B s i := by
  unfold v_X10_look v_X11_look
  by_cases hs : 0 ≤ s ∧ s < 4
  · rw [if_pos hs, if_pos (show 0 ≤ s ∧ s ≤ 3 by omega)]
    rcases h.2.2.2.2.2.2.2 s hs.1 hs.2 with ⟨a, b⟩ | ⟨a, b, c, d, e⟩
    · rw [if_pos a, if_pos (by omega)]
    · have b24 : -1 ≤ B 243 s ∧ B 243 s ≤ 24 := hB 243 s
      rw [if_neg (show ¬ A (224 + 2 * s) 0 = 0 by omega), if_neg (show ¬ B 243 s < 0 by omega), c]
      by_cases hi : 0 ≤ i ∧ i ≤ B 243 s - 1
      · rw [if_pos (by omega), if_pos hi, e i hi.1 (by omega), Int.add_comm]
      · rw [if_neg (by omega), if_neg hi]
  · rw [if_neg hs, if_neg (by omega)]
theorem sm_tail {g : Int → Int} {n : Int} (hn : 0 ≤ n) : ∀ m : Nat, (∀ k : Int, n ≤ k → k < n + m → g k = 0) → sm g (n + m) = sm g n
  | 0, _ => by rw [show n + ((0 : Nat) : Int) = n by omega]
  | m + 1, z => by
    rw [show n + ((m + 1 : Nat) : Int) = n + m + 1 by omega, sm_s (by omega), sm_tail hn m (fun k k0 k1 => z k k0 (by omega)), z (n + m) (by omega) (by omega), Int.add_zero]
theorem e_left (hA : Bd A) (hB : Bd B) (h : IV A B) : sm (fun kk => pop (A 60 kk)) (A 25 0) = sm (fun kk => pop (B 236 (0 + kk))) 7 := by
  have n := iv_n h
  have n0 : 0 ≤ B 233 0 ∧ B 233 0 ≤ 7 := hB 233 0
  rw [n.1, sm_cg (h := fun kk => pop (B 236 (0 + kk))) (B 233 0) (fun k k0 k1 => by rw [(iv_f h k0 k1).2.2])]
  have q := sm_tail (g := fun kk => pop (B 236 (0 + kk))) n0.1 (7 - B 233 0).toNat (fun k k0 k1 => by
    have z := h.2.2.2.1.2.1 k (by omega) k0 (by omega)
    show pop (B 236 (0 + k)) = 0
    rw [Int.zero_add, z, pop_0])
  rw [show B 233 0 + ((7 - B 233 0).toNat : Nat) = 7 by omega] at q
  exact q.symm
theorem e_shelves (hA : Bd A) (hB : Bd B) (h : IV A B) : sm (fun kk => A (224 + 2 * kk) 0) 4 = sm (fun kk => if B 243 kk < 0 then 0 else 1) 4 := sm_cg 4 (fun k k0 k1 => by
  rcases h.2.2.2.2.2.2.2 k k0 k1 with ⟨a, b⟩ | ⟨a, b, c, d, e⟩
  · rw [a, if_pos (by omega)]
  · rw [a, if_neg (by omega)])
theorem e_count (hA : Bd A) (hB : Bd B) (h : IV A B) {k : Int} : v_X10_count A k = v_X11_count B k := by
  have n := iv_n h
  have s := iv_s h
  unfold v_X10_count v_X11_count
  rw [e_left hA hB h, e_shelves hA hB h, n.1, n.2.1, n.2.2.1, n.2.2.2, s.1, s.2.1, s.2.2.1, s.2.2.2.1, s.2.2.2.2, h.2.2.2.2.2.2.1.1, h.2.2.2.2.1.1, h.1.1]
theorem fit_e (hA : Bd A) (hB : Bd B) (h : IV A B) {f w k : Int} (hf : 0 ≤ f ∧ f < B 233 0) (hw : 0 ≤ w ∧ w < B 233 113) (hk : k = 0 ∨ k = 1) : fitw A w f k ↔ fitv B f w k := by
  have r := iv_f h (f := f) hf.1 hf.2
  have u := h.2.1.1.2.2.2 w hw.1 hw.2
  unfold fitw fitv
  rw [u.1, r.1.2.2.2]
  constructor
  · rintro ⟨a, b⟩
    refine ⟨a, fun q q0 q1 => ?_⟩
    have z := b q q0 q1
    unfold fitp at z
    rw [r.2.2, u.2 q q0 (by omega), r.2.1 q q0 q1, r.1.1] at z
    exact ⟨z.1, fun t => hk.elim Or.inl (fun e => Or.inr (z.2 t e))⟩
  · rintro ⟨a, b⟩
    refine ⟨a, fun q q0 q1 => ?_⟩
    have z := b q q0 q1
    unfold fitp
    rw [r.2.2, u.2 q q0 (by omega), r.2.1 q q0 q1, r.1.1]
    exact ⟨z.1, fun t e => (z.2 t).resolve_left (by omega)⟩
theorem fitk_e (hA : Bd A) (hB : Bd B) (h : IV A B) {f k : Int} (hf : 0 ≤ f ∧ f < B 233 0) (hk : k = 0 ∨ k = 1) : bs (fun kk => fitw A kk f k) (A 25 10) = bs (fun kk => fitv B f kk k) (B 233 113) := by
  rw [(iv_n h).2.2.1]
  exact bs_cg _ (fun w w0 w1 => fit_e hA hB h hf ⟨w0, w1⟩ hk)
theorem e_could (hA : Bd A) (hB : Bd B) (h : IV A B) {f k : Int} : v_X10_could A f k = v_X11_could B f k := by
  have n := iv_n h
  unfold v_X10_could v_X11_could
  by_cases hf : 0 ≤ f ∧ f < A 25 0
  · rw [if_pos hf, if_pos (show 0 ≤ f ∧ f ≤ B 233 0 - 1 by omega)]
    by_cases hk : 0 ≤ k ∧ k ≤ 1
    · rw [if_neg (by omega), if_neg (by omega), if_pos hk]; exact fitk_e hA hB h (by omega) (by omega)
    · rw [if_neg hk]
      by_cases k0 : k < 0
      · rw [if_pos k0]
      · rw [if_neg k0, if_pos (by omega)]
  · rw [if_neg hf, if_neg (by omega)]
/-- the places that birds take -/
theorem bird_e (hA : Bd A) (hB : Bd B) (h : IV A B) {f : Int} (hf : 0 ≤ f ∧ f < B 233 0) : mx_and (A 60 f) (bpl A f) = bpM B f := by
  have n0 : 0 ≤ B 233 0 ∧ B 233 0 ≤ 7 := hB 233 0
  have r := iv_f h (f := f) hf.1 hf.2
  have b22 := bdc_233_22 hB f
  unfold bpl bpM
  rw [r.2.2, r.1.1, r.1.2.2.2]
  obtain ⟨m, hm⟩ := Int.eq_ofNat_of_zero_le b22.1
  rw [hm]
  refine b_ext (mx_and_r _ _) (bs_r _ _) (fun i hi => ?_)
  rw [b_and, Bool.eq_iff_iff, Bool.and_eq_true, bs_bt (by omega) hi, bs_bt (by omega) hi]
  constructor
  · rintro ⟨t, i1, b⟩
    exact ⟨i1, by show bt _ (i : Int).toNat = true; rw [Int.toNat_natCast]; exact t, by rw [← r.2.1 i (by omega) (by omega)]; exact b⟩
  · rintro ⟨i1, t, b⟩
    have t : bt (B 236 (0 + f)) (i : Int).toNat = true := t
    rw [Int.toNat_natCast] at t
    exact ⟨t, i1, by rw [r.2.1 i (by omega) (by omega)]; exact b⟩
theorem e_odds (hA : Bd A) (hB : Bd B) (h : IV A B) {f m q t : Int} : v_X10_odds A f m q t = (if 0 ≤ f ∧ f ≤ B 233 0 - 1 then if (0 ≤ m ∧ m ≤ 8) ∧ (0 ≤ q ∧ q ≤ 10) ∧ 0 ≤ t ∧ t ≤ 1 then odk B f m q t else -3 else -2) := by
  have n := iv_n h
  have n0 : 0 ≤ B 233 0 ∧ B 233 0 ≤ 7 := hB 233 0
  unfold v_X10_odds
  by_cases hf : 0 ≤ f ∧ f < A 25 0
  · rw [if_pos hf, if_pos (show 0 ≤ f ∧ f ≤ B 233 0 - 1 by omega)]
    by_cases hm : 0 ≤ m ∧ m ≤ 8
    · rw [if_neg (by omega), if_neg (by omega)]
      by_cases hq : 0 ≤ q ∧ q ≤ 10
      · rw [if_neg (by omega), if_neg (by omega)]
        by_cases ht : 0 ≤ t ∧ t ≤ 1
        · rw [if_neg (by omega), if_neg (by omega), if_pos (show (0 ≤ m ∧ m ≤ 8) ∧ (0 ≤ q ∧ q ≤ 10) ∧ 0 ≤ t ∧ t ≤ 1 from ⟨hm, hq, ht⟩)]
          have e : mx_and (A 60 f) (bs (fun kk => btake (A 26 f) (A (31 + f) kk)) (A 29 f)) = bpM B f := bird_e hA hB h (f := f) (by omega)
          have r := iv_f h (f := f) hf.1 (by omega)
          rw [e, r.2.2]
          have en : pop (bpM B f) = nbM B f := rfl
          rw [en]
          have b0 := bdc_233_22 hB f
          have p1 := pop_8 (lf8 hB (f := f) (by omega))
          have p2 := pop_r (B 236 (0 + f))
          have nb : 0 ≤ nbM B f ∧ nbM B f ≤ 8 := ⟨(pop_r _).1, pop_8 (a := bpM B f) (by have q := bs8 (p := fun kk => tb (B 236 (0 + f)) kk ∧ btake (B 233 (1 + f)) (B 233 (29 + 8 * f + kk))) (n := B 233 (22 + f)) (by omega); exact ⟨q.1, Int.le_of_lt_add_one q.2⟩)⟩
          have no := oab_e (q := q) (a := nbM B f) (s := pop (B 236 (0 + f)) - m) hq nb (by omega)
          unfold odk
          rw [no]
          have w := wam_b (m := pop (B 236 (0 + f)) - m) (a := nbM B f) (q := q) (by omega) nb hq
          have pq := pw_b (b := 10) (n := nbM B f) (by omega) nb
          have g := gc_b (a := wam (pop (B 236 (0 + f)) - m) (nbM B f) q) (b := pw 10 (nbM B f)) w.1 (pq.2 rfl)
          rw [if_neg (show ¬ gc (wam (pop (B 236 (0 + f)) - m) (nbM B f) q) (pw 10 (nbM B f)) = 0 by omega)]
        · rw [if_neg (show ¬ ((0 ≤ m ∧ m ≤ 8) ∧ (0 ≤ q ∧ q ≤ 10) ∧ 0 ≤ t ∧ t ≤ 1) from fun z => ht z.2.2)]
          by_cases k0 : t < 0
          · rw [if_pos k0]
          · rw [if_neg k0, if_pos (by omega)]
      · rw [if_neg (show ¬ ((0 ≤ m ∧ m ≤ 8) ∧ (0 ≤ q ∧ q ≤ 10) ∧ 0 ≤ t ∧ t ≤ 1) from fun z => hq z.2.1)]
        by_cases k0 : q < 0
        · rw [if_pos k0]
        · rw [if_neg k0, if_pos (by omega)]
    · rw [if_neg (show ¬ ((0 ≤ m ∧ m ≤ 8) ∧ (0 ≤ q ∧ q ≤ 10) ∧ 0 ≤ t ∧ t ≤ 1) from fun z => hm z.1)]
      by_cases k0 : m < 0
      · rw [if_pos k0]
      · rw [if_neg k0, if_pos (by omega)]
  · rw [if_neg hf, if_neg (by omega)]
end
