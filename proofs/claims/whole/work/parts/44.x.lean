/-! THE REFERENCE's FEAST: depth first -/
abbrev BS : Type := Int × Int × (Int → Int)
def ngW (S : rS) (a f : Int) : Int := S 235 (7 * a + f) + mins (S 233 (1 + f)) (pop (S 236 (0 + f)))
def myW (S : rS) (met a t f : Int) : Prop := ¬ tb met f ∧ (S 233 (1 + f) ≠ 1 ∨ S 236 10 < 5) ∧ t + ngW S a f ≤ S 233 186
def upf {α : Type} (v : Int → α → α) : Nat → Int → α → α
  | 0, _, b => b
  | m + 1, c, b => upf v m (c + 1) (v c b)
def btr (b : BS) (g d : Int) (P : Int → Int) : BS := if b.1 < g ∨ (g = b.1 ∧ d < b.2.1) then (g, d, fun j => if 0 ≤ j ∧ j < d then P j else b.2.2 j) else b
/-- all walks behind a walk -/
noncomputable def sbt (S : rS) : Nat → Int → Int → Int → Int → Int → (Int → Int) → BS → BS
  | 0, _, _, _, _, _, _, b => b
  | k + 1, met, a, t, g, d, P, b => upf (fun f b => @ite BS (myW S met a t f) (Classical.propDecidable _) (sbt S k (mx_or met (mx_shl 1 f)) f (t + ngW S a f) (g + pop (S 236 (0 + f))) (d + 1) (ur P d f) (btr b (g + pop (S 236 (0 + f))) (d + 1) (ur P d f))) b) (S 233 0).toNat 0 b
noncomputable def vis (S : rS) (k : Nat) (met a t g d : Int) (P : Int → Int) : Int → BS → BS := fun f b => @ite BS (myW S met a t f) (Classical.propDecidable _) (sbt S k (mx_or met (mx_shl 1 f)) f (t + ngW S a f) (g + pop (S 236 (0 + f))) (d + 1) (ur P d f) (btr b (g + pop (S 236 (0 + f))) (d + 1) (ur P d f))) b
theorem sbt_s {S : rS} {k : Nat} {met a t g d : Int} {P : Int → Int} {b : BS} : sbt S (k + 1) met a t g d P b = upf (vis S k met a t g d P) (S 233 0).toNat 0 b := rfl
/-- the stack, read off memory -/
def mtT (S T : rS) : Nat → Int
  | 0 => S 236 9
  | i + 1 => mx_or (mtT S T i) (mx_shl 1 (T 245 i))
def aT (S T : rS) (i : Int) : Int := if i = 0 then S 236 11 else T 245 (i - 1)
def pfx (T : rS) (d : Int) : Int → Int := fun j => if 0 ≤ j ∧ j < d then T 245 j else 0
noncomputable def fra (S T : rS) (i c : Int) (b : BS) : BS := upf (vis S (7 - i).toNat (mtT S T i.toNat) (aT S T i) (T 246 i) (T 247 i) i (pfx T i)) (S 233 0 - c).toNat c b
noncomputable def rmS (S T : rS) : Nat → BS → BS
  | 0, b => b
  | i + 1, b => rmS S T i (fra S T i (T 245 i + 1) b)
def bst (T : rS) : BS := (T 232 26, T 232 25, T 248)
noncomputable def TOTF (S : rS) : BS := sbt S 8 (S 236 9) (S 236 11) (S 236 7) 0 0 (fun _ => 0) (0, 0, S 248)
theorem mtT_cg {S T T' : rS} : ∀ i : Nat, (∀ j : Int, 0 ≤ j → j < i → T' 245 j = T 245 j) → mtT S T' i = mtT S T i
  | 0, _ => rfl
  | i + 1, h => by
    show mx_or (mtT S T' i) _ = mx_or (mtT S T i) _
    rw [mtT_cg i (fun j h0 h1 => h j h0 (by omega)), h i (by omega) (by omega)]
theorem pfx_cg {T T' : rS} {d : Int} (h : ∀ j : Int, 0 ≤ j → j < d → T' 245 j = T 245 j) : pfx T' d = pfx T d := by
  funext j; unfold pfx
  by_cases q : 0 ≤ j ∧ j < d
  · rw [if_pos q, if_pos q]; exact h j q.1 q.2
  · rw [if_neg q, if_neg q]
theorem fra_cg {S T T' : rS} {i c : Int} {b : BS} (hi : 0 ≤ i) (h : ∀ j : Int, 0 ≤ j → j < i → T' 245 j = T 245 j) (h6 : T' 246 i = T 246 i) (h7 : T' 247 i = T 247 i) : fra S T' i c b = fra S T i c b := by
  unfold fra
  have e : aT S T' i = aT S T i := by
    unfold aT
    by_cases z : i = 0
    · rw [if_pos z, if_pos z]
    · rw [if_neg z, if_neg z]; exact h _ (by omega) (by omega)
  rw [mtT_cg i.toNat (fun j h0 h1 => h j h0 (by omega)), e, h6, h7, pfx_cg h]
theorem rmS_cg {S T T' : rS} : ∀ (i : Nat) (b : BS), (∀ j : Int, 0 ≤ j → j < i → T' 245 j = T 245 j ∧ T' 246 j = T 246 j ∧ T' 247 j = T 247 j) → rmS S T' i b = rmS S T i b
  | 0, _, _ => rfl
  | i + 1, b, h => by
    show rmS S T' i (fra S T' i (T' 245 i + 1) b) = rmS S T i (fra S T i (T 245 i + 1) b)
    have q := h i (by omega) (by omega)
    rw [fra_cg (T := T) (by omega) (fun j h0 h1 => (h j h0 (by omega)).1) q.2.1 q.2.2, q.1]
    exact rmS_cg i _ (fun j h0 h1 => h j h0 (by omega))
theorem fra_e {S T : rS} {i c : Int} {b : BS} (h : S 233 0 ≤ c) : fra S T i c b = b := by
  unfold fra; rw [show (S 233 0 - c).toNat = 0 by omega]; rfl
theorem fra_s {S T : rS} {i c : Int} {b : BS} (h : c < S 233 0) : fra S T i c b = fra S T i (c + 1) (vis S (7 - i).toNat (mtT S T i.toNat) (aT S T i) (T 246 i) (T 247 i) i (pfx T i) c b) := by
  unfold fra; rw [show (S 233 0 - c).toNat = (S 233 0 - (c + 1)).toNat + 1 by omega]; rfl
theorem or_pn : ∀ g : Fin 128, ∀ k : Fin 7, bt g.val k.val = false → pop (mx_or g.val (mx_shl 1 k.val)) = pop g.val + 1 ∧ mx_and (mx_or g.val (mx_shl 1 k.val)) (mx_xor (mx_shl 1 k.val) (-1)) = g.val := by decide +kernel
theorem or_p {g k : Int} (hg : 0 ≤ g ∧ g < 128) (hk : 0 ≤ k ∧ k < 7) (h : ¬ tb g k) : pop (mx_or g (mx_shl 1 k)) = pop g + 1 ∧ mx_and (mx_or g (mx_shl 1 k)) (mx_xor (mx_shl 1 k) (-1)) = g := by
  obtain ⟨g', rfl⟩ := Int.eq_ofNat_of_zero_le hg.1
  obtain ⟨k', rfl⟩ := Int.eq_ofNat_of_zero_le hk.1
  exact or_pn ⟨g', by omega⟩ ⟨k', by omega⟩ (Bool.eq_false_iff.mpr h)
theorem or_128 {g k : Int} (hg : 0 ≤ g ∧ g < 128) (hk : 0 ≤ k ∧ k < 7) : 0 ≤ mx_or g (mx_shl 1 k) ∧ mx_or g (mx_shl 1 k) < 128 := by
  have e := shl_u (k := k) 7 (by omega) hk
  exact or_u (a := g) (b := mx_shl 1 k) 7 (by omega) hg e (by omega) (by omega)
theorem and_m1 {g : Int} (hg : 0 ≤ g ∧ g < 128) : mx_and g (-1) = g := b_ext (mx_and_r _ _) (by omega) (fun i hi => by rw [b_and, b_m1 i hi, Bool.and_true])
abbrev FRR (S T : rS) : Prop := ∀ a j : Int, ¬ (245 ≤ a ∧ a ≤ 248 ∨ a = 232 ∧ (j = 25 ∨ j = 26)) → T a j = S a j
/-- the stack below d -/
def STK (S T : rS) (d : Int) : Prop := (Bd T ∧ FRR S T) ∧ (∀ i : Int, 0 ≤ i → i < d → (0 ≤ T 245 i ∧ T 245 i < S 233 0) ∧ ¬ tb (mtT S T i.toNat) (T 245 i)) ∧ (∀ i : Int, 0 ≤ i → i ≤ d → T 246 i ≤ 99 ∧ T 247 i ≤ 8 * i)
def FI (S T : rS) (d met : Int) : Prop := STK S T d ∧ (-1 ≤ d ∧ d ≤ 7) ∧ (0 ≤ met ∧ met < 128) ∧ (0 ≤ d → T 245 d < S 233 0 ∧ (T 245 d < 0 → met = mtT S T d.toNat) ∧ (0 ≤ T 245 d → met = mx_or (mtT S T d.toNat) (mx_shl 1 (T 245 d)) ∧ ¬ tb (mtT S T d.toNat) (T 245 d))) ∧ rmS S T (d + 1).toNat (bst T) = TOTF S
def FJ (S T : rS) (d met : Int) : Prop := STK S T d ∧ (0 ≤ d ∧ d ≤ 7) ∧ met = mtT S T d.toNat ∧ (0 ≤ T 245 d ∧ T 245 d ≤ S 233 0) ∧ rmS S T d.toNat (fra S T d (T 245 d) (bst T)) = TOTF S
theorem mt_b {S T : rS} (hS : Bd S) {d : Int} (h : ∀ i : Int, 0 ≤ i → i < d → (0 ≤ T 245 i ∧ T 245 i < S 233 0) ∧ ¬ tb (mtT S T i.toNat) (T 245 i)) : ∀ i : Nat, (i : Int) ≤ d → (0 ≤ mtT S T i ∧ mtT S T i < 128) ∧ (i : Int) ≤ pop (mtT S T i)
  | 0, _ => by
    have q : 0 ≤ S 236 9 ∧ S 236 9 ≤ 127 := hS 236 9
    have p := pop_r (mtT S T 0)
    exact ⟨by show 0 ≤ S 236 9 ∧ S 236 9 < 128; omega, p.1⟩
  | i + 1, hi => by
    have q := mt_b hS h i (by omega)
    have n0 : 0 ≤ S 233 0 ∧ S 233 0 ≤ 7 := hS 233 0
    have z := h i (by omega) (by omega)
    rw [Int.toNat_natCast] at z
    have o := or_p q.1 (k := T 245 i) (by omega) z.2
    have o2 := or_128 q.1 (k := T 245 i) (by omega)
    show (0 ≤ mx_or (mtT S T i) (mx_shl 1 (T 245 i)) ∧ _) ∧ _ ≤ pop (mx_or (mtT S T i) (mx_shl 1 (T 245 i)))
    exact ⟨o2, by rw [o.1]; omega⟩
/-- at most seven fields -/
theorem d7 {S T : rS} (hS : Bd S) {d f : Int} (hd : 0 ≤ d) (h : ∀ i : Int, 0 ≤ i → i < d → (0 ≤ T 245 i ∧ T 245 i < S 233 0) ∧ ¬ tb (mtT S T i.toNat) (T 245 i)) (hf : 0 ≤ f ∧ f < 7) (hn : ¬ tb (mtT S T d.toNat) f) : d ≤ 6 := by
  have q := mt_b hS h d.toNat (by omega)
  have o := or_p q.1 hf hn
  have o2 := or_128 q.1 hf
  have p := pop_7 (a := mx_or (mtT S T d.toNat) (mx_shl 1 f)) (by omega)
  omega
theorem STK_cg {S T T' : rS} {d : Int} (h : STK S T d) (hB : Bd T') (hF : FRR S T') (h5 : ∀ j : Int, 0 ≤ j → j < d → T' 245 j = T 245 j) (h6 : ∀ j : Int, 0 ≤ j → j ≤ d → T' 246 j = T 246 j ∧ T' 247 j = T 247 j) : STK S T' d := by
  refine ⟨⟨hB, hF⟩, fun i i0 i1 => ?_, fun i i0 i1 => ?_⟩
  · rw [h5 i i0 i1, mtT_cg i.toNat (fun j h0 h1 => h5 j h0 (by omega))]; exact h.2.1 i i0 i1
  · rw [(h6 i i0 i1).1, (h6 i i0 i1).2]; exact h.2.2 i i0 i1
theorem FJ_i {S T : rS} (hS : Bd S) {d met m2 : Int} (h : FI S T d met) (hd : 0 ≤ d) (hB : Bd (mx_up T 245 d (T 245 d + 1))) (hm : (T 245 d < 0 ∧ m2 = mx_and met (-1)) ∨ (0 ≤ T 245 d ∧ m2 = mx_and met (mx_xor (mx_shl 1 (T 245 d)) (-1)))) : FJ S (mx_up T 245 d (T 245 d + 1)) d m2 := by
  obtain ⟨h1, h2, h3, h4, h5⟩ := h
  have h4 := h4 hd
  have n0 : 0 ≤ S 233 0 ∧ S 233 0 ≤ 7 := hS 233 0
  have mb := mt_b hS h1.2.1 d.toNat (by omega)
  have w0 : -1 ≤ T 245 d ∧ T 245 d ≤ 7 := h1.1.1 245 d
  have e5 : ∀ j : Int, 0 ≤ j → j < d → mx_up T 245 d (T 245 d + 1) 245 j = T 245 j := fun j j0 j1 => up_ne (by omega)
  have eo : ∀ a j : Int, ¬ a = 245 → mx_up T 245 d (T 245 d + 1) a j = T a j := fun a j ha => up_ne (by omega)
  have em := mtT_cg (S := S) (T := T) d.toNat (fun j j0 j1 => e5 j j0 (by omega))
  refine ⟨STK_cg h1 hB (fun a j ha => (eo a j (by omega)).trans (h1.1.2 a j ha)) e5 (fun j _ _ => ⟨eo _ _ (by omega), eo _ _ (by omega)⟩), ⟨hd, h2.2⟩, ?_, by rw [up_eq]; omega, ?_⟩
  · rw [em]
    rcases hm with ⟨z, e⟩ | ⟨z, e⟩
    · rw [e, h4.2.1 z, and_m1 mb.1]
    · have q := h4.2.2 z
      rw [e, q.1, (or_p mb.1 (k := T 245 d) (by omega) q.2).2]
  · have eb : bst (mx_up T 245 d (T 245 d + 1)) = bst T := rfl
    rw [up_eq, eb, fra_cg (T := T) hd e5 (eo _ _ (by omega)) (eo _ _ (by omega)), rmS_cg (T := T) d.toNat _ (fun j j0 j1 => ⟨e5 j j0 (by omega), eo _ _ (by omega), eo _ _ (by omega)⟩), ← h5, show (d + 1).toNat = d.toNat + 1 by omega]
    show _ = rmS S T d.toNat (fra S T ((d.toNat : Nat) : Int) (T 245 ((d.toNat : Nat) : Int) + 1) (bst T))
    rw [show ((d.toNat : Nat) : Int) = d by omega]
theorem FJ_n {S U V : rS} {d met : Int} (h : FJ S U d met) (hc : U 245 d < S 233 0) (hB : Bd V) (hV : V = mx_up (mx_up U 246 (d + 1) (U 246 d + ngW S (aT S U d) (U 245 d))) 245 d (U 245 d + 1)) (hn : ¬ myW S met (aT S U d) (U 246 d) (U 245 d)) : FJ S V d met := by
  obtain ⟨h1, h2, h3, h4, h5⟩ := h
  have e5 : ∀ j : Int, 0 ≤ j → j < d → V 245 j = U 245 j := fun j j0 j1 => by rw [hV, up_ne (by omega), up_ne (by omega)]
  have e6 : ∀ j : Int, 0 ≤ j → j ≤ d → V 246 j = U 246 j ∧ V 247 j = U 247 j := fun j j0 j1 => by rw [hV]; exact ⟨by rw [up_ne (by omega), up_ne (by omega)], by rw [up_ne (by omega), up_ne (by omega)]⟩
  have ec : V 245 d = U 245 d + 1 := by rw [hV, up_eq]
  have em := mtT_cg (S := S) (T := U) d.toNat (fun j j0 j1 => e5 j j0 (by omega))
  refine ⟨STK_cg h1 hB (fun a j ha => by rw [hV, up_ne (by omega), up_ne (by omega)]; exact h1.1.2 a j ha) e5 e6, h2, by rw [em]; exact h3, by rw [ec]; omega, ?_⟩
  have eb : bst V = bst U := by rw [hV]; rfl
  rw [eb, ec, fra_cg (T := U) h2.1 e5 (e6 d h2.1 (Int.le_refl _)).1 (e6 d h2.1 (Int.le_refl _)).2, rmS_cg (T := U) d.toNat _ (fun j j0 j1 => ⟨e5 j j0 (by omega), (e6 j j0 (by omega)).1, (e6 j j0 (by omega)).2⟩), ← h5, fra_s hc]
  rw [h3] at hn
  congr 2
  unfold vis
  exact (if_neg hn).symm
theorem FI_pop {S U : rS} (hS : Bd S) {d met : Int} (h : FJ S U d met) (hc : ¬ U 245 d < S 233 0) : FI S U (d - 1) met := by
  obtain ⟨h1, h2, h3, h4, h5⟩ := h
  have mb := mt_b hS h1.2.1 d.toNat (by omega)
  refine ⟨⟨h1.1, fun i i0 i1 => h1.2.1 i i0 (by omega), fun i i0 i1 => h1.2.2 i i0 (by omega)⟩, by omega, by rw [h3]; exact mb.1, fun hd => ?_, ?_⟩
  · have q := h1.2.1 (d - 1) hd (by omega)
    refine ⟨q.1.2, fun z => by omega, fun _ => ⟨?_, q.2⟩⟩
    rw [h3, show d.toNat = (d - 1).toNat + 1 by omega]
    show mx_or (mtT S U (d - 1).toNat) (mx_shl 1 (U 245 (((d - 1).toNat : Nat) : Int))) = _
    rw [show (((d - 1).toNat : Nat) : Int) = d - 1 by omega]
  · rw [fra_e (by omega)] at h5
    rw [show d - 1 + 1 = d by omega]; exact h5
theorem FI_push {S U V : rS} (hS : Bd S) {d met f g : Int} (h : FJ S U d met) (hf : f = U 245 d) (hc : U 245 d < S 233 0) (hm : myW S met (aT S U d) (U 246 d) (U 245 d)) (hg : g = U 247 d + pop (S 236 (0 + U 245 d))) (hB : Bd V) (hF : FRR S V)
    (h5 : ∀ j : Int, ¬ j = d + 1 → V 245 j = U 245 j) (h5' : V 245 (d + 1) = -1) (h6 : ∀ j : Int, ¬ j = d + 1 → V 246 j = U 246 j) (h6' : V 246 (d + 1) = U 246 d + ngW S (aT S U d) (U 245 d)) (h7 : ∀ j : Int, ¬ j = d + 1 → V 247 j = U 247 j) (h7' : V 247 (d + 1) = g)
    (hb : bst V = btr (bst U) g (d + 1) (fun j => U 245 j)) : FI S V (d + 1) (mx_or met (mx_shl 1 f)) := by
  obtain ⟨q1, q2, q3, q4, q5⟩ := h
  have n0 : 0 ≤ S 233 0 ∧ S 233 0 ≤ 7 := hS 233 0
  have mb := mt_b hS q1.2.1 d.toNat (by omega)
  have hD : S 233 186 ≤ 99 := (hS 233 186).2
  have hm' : myW S (mtT S U d.toNat) (aT S U d) (U 246 d) (U 245 d) := by rw [← q3]; exact hm
  have d6 := d7 hS q2.1 q1.2.1 (f := U 245 d) (by omega) hm'.1
  have e5 : ∀ j : Int, 0 ≤ j → j < d → V 245 j = U 245 j := fun j j0 j1 => h5 j (by omega)
  have em := mtT_cg (S := S) (T := U) d.toNat (fun j j0 j1 => e5 j j0 (by omega))
  have em1 : mtT S V (d + 1).toNat = mx_or (mtT S U d.toNat) (mx_shl 1 (U 245 d)) := by
    rw [show (d + 1).toNat = d.toNat + 1 by omega]
    show mx_or (mtT S V d.toNat) (mx_shl 1 (V 245 ((d.toNat : Nat) : Int))) = _
    rw [em, show ((d.toNat : Nat) : Int) = d by omega, h5 d (by omega)]
  have o2 := or_128 mb.1 (k := U 245 d) (by omega)
  have hq := q1.2.2 d q2.1 (Int.le_refl _)
  have g8 := pop_8 (lf8 hS (f := U 245 d) (by omega))
  refine ⟨⟨⟨hB, hF⟩, fun i i0 i1 => ?_, fun i i0 i1 => ?_⟩, by omega, by rw [q3, hf]; exact o2, fun _ => ⟨by omega, fun _ => by rw [em1, q3, hf], fun z => by omega⟩, ?_⟩
  · have ei : mtT S V i.toNat = mtT S U i.toNat := mtT_cg i.toNat (fun j j0 j1 => h5 j (by omega))
    rw [ei, h5 i (by omega)]
    by_cases z : i = d
    · rw [z]; exact ⟨⟨by omega, hc⟩, hm'.1⟩
    · exact q1.2.1 i i0 (by omega)
  · by_cases z : i = d + 1
    · rw [z, h6', h7', hg]
      have := hm'.2.2
      omega
    · rw [h6 i z, h7 i z]; exact q1.2.2 i i0 (by omega)
  · rw [show (d + 1 + 1).toNat = (d.toNat + 1) + 1 by omega]
    show rmS S V d.toNat (fra S V ((d.toNat : Nat) : Int) (V 245 ((d.toNat : Nat) : Int) + 1) (fra S V (((d.toNat + 1 : Nat)) : Int) (V 245 ((d.toNat + 1 : Nat) : Int) + 1) (bst V))) = _
    rw [show ((d.toNat : Nat) : Int) = d by omega, show ((d.toNat + 1 : Nat) : Int) = d + 1 by omega, h5', h5 d (by omega), hb, fra_cg (T := U) (i := d) q2.1 e5 (h6 d (by omega)) (h7 d (by omega)), rmS_cg (T := U) d.toNat _ (fun j j0 j1 => ⟨e5 j j0 (by omega), h6 j (by omega), h7 j (by omega)⟩), ← q5, fra_s hc]
    congr 2
    unfold vis
    refine Eq.trans ?_ (if_pos hm').symm
    unfold fra
    have ea : aT S V (d + 1) = U 245 d := by unfold aT; rw [if_neg (by omega), show d + 1 - 1 = d by omega, h5 d (by omega)]
    have ep : pfx V (d + 1) = ur (pfx U d) d (U 245 d) := by
      funext j; unfold pfx ur
      by_cases z : j = d
      · rw [if_pos (by omega), if_pos z, z, h5 d (by omega)]
      · rw [if_neg z]
        by_cases y : 0 ≤ j ∧ j < d
        · rw [if_pos (by omega), h5 j (by omega)]; exact (if_pos y).symm
        · rw [if_neg (by omega)]; exact (if_neg y).symm
    have eb : btr (bst U) g (d + 1) (fun j => U 245 j) = btr (bst U) g (d + 1) (ur (pfx U d) d (U 245 d)) := by
      unfold btr
      split
      · congr 2
        funext j; unfold ur pfx
        by_cases y : 0 ≤ j ∧ j < d + 1
        · rw [if_pos y, if_pos y]
          by_cases z : j = d
          · rw [if_pos z, z]
          · rw [if_neg z, if_pos (by omega)]
        · rw [if_neg y, if_neg y]
      · rfl
    rw [show (-1 : Int) + 1 = 0 by decide, Int.sub_zero, em1, ea, h6', h7', ep, eb, hg, show (7 - d).toNat = (7 - (d + 1)).toNat + 1 by omega, sbt_s]
theorem FI_0 {S T : rS} (hS : Bd S) (hB : Bd T) (hF : FRR S T) (h5 : T 245 0 = -1) (h6 : T 246 0 = S 236 7) (h7 : T 247 0 = 0) (hb : bst T = (0, 0, S 248)) : FI S T 0 (S 236 9) := by
  have n0 : 0 ≤ S 233 0 ∧ S 233 0 ≤ 7 := hS 233 0
  have b9 : 0 ≤ S 236 9 ∧ S 236 9 ≤ 127 := hS 236 9
  have b7 : 0 ≤ S 236 7 ∧ S 236 7 ≤ 99 := hS 236 7
  refine ⟨⟨⟨hB, hF⟩, fun i i0 i1 => by omega, fun i i0 i1 => ?_⟩, by omega, by omega, fun _ => ⟨by omega, fun _ => rfl, fun z => by omega⟩, ?_⟩
  · rw [show i = 0 by omega, h6, h7]; omega
  · show fra S T 0 (T 245 0 + 1) (bst T) = _
    have ep : pfx T 0 = fun _ => 0 := by funext j; unfold pfx; rw [if_neg (by omega)]
    unfold fra TOTF
    rw [h5, h6, h7, hb, ep, show (-1 : Int) + 1 = 0 by decide, Int.sub_zero, Int.sub_zero, sbt_s]
    rfl
theorem Bd_cpv {S : rS} {a i b j n : Int} (h : Bd S) (hg : ∀ k, 0 ≤ k → k < n → bd_lo b (j + k) ≤ S a (i + k) ∧ S a (i + k) ≤ bd_hi b (j + k)) : Bd (mx_cp S a i b j n) := by
  intro x y; unfold mx_cp
  by_cases h1 : x = b ∧ j ≤ y ∧ y < j + n
  · rw [if_pos h1]; obtain ⟨rfl, h2⟩ := h1
    have q := hg (y - j) (by omega) (by omega)
    rw [show j + (y - j) = y by omega] at q
    exact q
  · rw [if_neg h1]; exact h x y
theorem bi_00 {P : Prop} (h : bi P = 0) : ¬ P := fun z => by rw [bi_1 z] at h; exact absurd h (by decide)
theorem bi_n0 {P : Prop} (h : ¬ bi P = 0) : P := Classical.byContradiction (fun z => h (bi_0 z))
theorem FI_b {S T : rS} {d met : Int} (h : FI S T d met) : Bd T ∧ FRR S T ∧ (-1 ≤ d ∧ d ≤ 7) ∧ (0 ≤ met ∧ met < 128) ∧ (0 ≤ d → T 245 d < S 233 0) := ⟨h.1.1.1, h.1.1.2, h.2.1, h.2.2.1, fun z => (h.2.2.2.1 z).1⟩
theorem FJ_b {S T : rS} (hS : Bd S) {d met : Int} (h : FJ S T d met) : Bd T ∧ FRR S T ∧ (0 ≤ d ∧ d ≤ 7) ∧ (0 ≤ met ∧ met < 128) ∧ (0 ≤ T 245 d ∧ T 245 d ≤ S 233 0) ∧ (T 246 d ≤ 99 ∧ T 247 d ≤ 8 * d) ∧ ∀ i : Int, 0 ≤ i → i < d → 0 ≤ T 245 i ∧ T 245 i < S 233 0 := ⟨h.1.1.1, h.1.1.2, h.2.1, by rw [h.2.2.1]; exact (mt_b hS h.1.2.1 d.toNat (by have := h.2.1; omega)).1, h.2.2.2.1, h.1.2.2 d h.2.1.1 (Int.le_refl _), fun i i0 i1 => (h.1.2.1 i i0 i1).1⟩
/-- how far the search is -/
def msF (T : rS) (n : Int) : Nat → Int
  | 0 => 0
  | i + 1 => msF T n i + (n - T 245 i) * 9 ^ (7 - i)
theorem msF_cg {T T' : rS} {n : Int} : ∀ i : Nat, (∀ j : Int, 0 ≤ j → j < i → T' 245 j = T 245 j) → msF T' n i = msF T n i
  | 0, _ => rfl
  | i + 1, h => by
    show msF T' n i + (n - T' 245 i) * _ = msF T n i + (n - T 245 i) * _
    rw [msF_cg i (fun j h0 h1 => h j h0 (by omega)), h i (by omega) (by omega)]
theorem p9 (k : Nat) : (0 : Int) < 9 ^ k := Int.pow_pos (by decide)
theorem msF_0 {S T : rS} {n : Int} : ∀ i : Nat, (∀ j : Int, 0 ≤ j → j < i → T 245 j ≤ n) → 0 ≤ msF T n i
  | 0, _ => Int.le_refl _
  | i + 1, h => by
    have q := msF_0 (S := S) i (fun j h0 h1 => h j h0 (by omega))
    have q2 := h i (by omega) (by omega)
    have q3 := p9 (7 - i)
    have q4 := Int.mul_nonneg (show 0 ≤ n - T 245 i by omega) (Int.le_of_lt q3)
    show 0 ≤ msF T n i + (n - T 245 i) * 9 ^ (7 - i)
    omega
theorem msF_1 {T : rS} {n d : Int} (hd : 0 ≤ d) : msF T n (d + 1).toNat = msF T n d.toNat + (n - T 245 d) * 9 ^ (7 - d.toNat) := by
  rw [show (d + 1).toNat = d.toNat + 1 by omega]
  show msF T n d.toNat + (n - T 245 ((d.toNat : Nat) : Int)) * _ = _
  rw [show ((d.toNat : Nat) : Int) = d by omega]
/-- the outer measure falls -/
theorem ms_pop {S T U : rS} (hS : Bd S) {d met m2 : Int} (h : FI S T d met) (h2 : FJ S U d m2) (hT : ∀ j : Int, 0 ≤ j → j < d → U 245 j = T 245 j) : (msF U (S 233 0) (d - 1 + 1).toNat).toNat < (msF T (S 233 0) (d + 1).toNat).toNat := by
  have hd := h2.2.1
  have q := (h.2.2.2.1 hd.1).1
  have p := p9 (7 - d.toNat)
  have a := msF_0 (S := S) (T := T) (n := S 233 0) d.toNat (fun j j0 j1 => Int.le_of_lt (h.1.2.1 j j0 (by omega)).1.2)
  have m := Int.mul_pos (show 0 < S 233 0 - T 245 d by omega) p
  rw [show d - 1 + 1 = d by omega, msF_1 hd.1, msF_cg (T := T) d.toNat (fun j j0 j1 => hT j j0 (by omega))]
  omega
theorem ms_push {S T U V : rS} (hS : Bd S) {d met m2 m3 : Int} (h : FI S T d met) (h2 : FJ S U d m2) (h3 : FI S V (d + 1) m3) (hT : ∀ j : Int, 0 ≤ j → j < d → U 245 j = T 245 j) (hU : T 245 d + 1 ≤ U 245 d) (hV : ∀ j : Int, ¬ j = d + 1 → V 245 j = U 245 j) (hv : V 245 (d + 1) = -1) : (msF V (S 233 0) (d + 1 + 1).toNat).toNat < (msF T (S 233 0) (d + 1).toNat).toNat := by
  have hd := h2.2.1
  have hd6 := h3.2.1
  have n0 : 0 ≤ S 233 0 ∧ S 233 0 ≤ 7 := hS 233 0
  have hu := h2.2.2.2.1
  have a := msF_0 (S := S) (T := T) (n := S 233 0) d.toNat (fun j j0 j1 => Int.le_of_lt (h.1.2.1 j j0 (by omega)).1.2)
  rw [msF_1 (by omega), msF_1 hd.1, msF_1 hd.1, msF_cg (T := T) d.toNat (fun j j0 j1 => (hV j (by omega)).trans (hT j j0 (by omega))), hV d (by omega), hv]
  have e9 : (9 : Int) ^ (7 - d.toNat) = 9 * 9 ^ (7 - (d + 1).toNat) := by
    rw [show 7 - d.toNat = (7 - (d + 1).toNat) + 1 by omega, Int.pow_succ, Int.mul_comm]
  have p := p9 (7 - (d + 1).toNat)
  rw [e9]
  generalize (9 : Int) ^ (7 - (d + 1).toNat) = p9' at *
  have m1 : (S 233 0 - U 245 d) * (9 * p9') ≤ (S 233 0 - T 245 d - 1) * (9 * p9') := Int.mul_le_mul_of_nonneg_right (by omega) (by omega)
  have m2 : (S 233 0 - T 245 d - 1) * (9 * p9') = (S 233 0 - T 245 d) * (9 * p9') - 9 * p9' := by rw [Int.sub_mul, Int.one_mul]
  have m3 : (S 233 0 - -1) * p9' ≤ 8 * p9' := Int.mul_le_mul_of_nonneg_right (by omega) (by omega)
  have m4 : 0 ≤ (S 233 0 - U 245 d) * (9 * p9') := Int.mul_nonneg (by omega) (by omega)
  have m5 : 0 ≤ (S 233 0 - -1) * p9' := Int.mul_nonneg (by omega) (by omega)
  omega
