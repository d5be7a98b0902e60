/-! RULES for proofs over the machine, when all objects are made: memory is S alone -/
theorem mx_stp_mono {cl cl2 : Nat → List mx_V → mx_M → mx_Q → Prop} {M : Nat} {Q Q2 : mx_Q} {P P2 : mx_C → Prop} {c : mx_C} (hcl : ∀ y as m q, cl y as m q → cl2 y as m q) (hQ : ∀ v m, Q v m → Q2 v m) (hP : ∀ c, P c → P2 c) (h : mx_stp cl M Q P c) : mx_stp cl2 M Q2 P2 c := by
  rcases h with ⟨h, hp, hJ⟩ | ⟨y, k, as, r, mid, bc, bs, g1, g2, g3, g4, g5, g6, g7, g8, g9⟩ | g | ⟨ls', m', g1, g2, g3, hJ⟩
  · exact Or.inl ⟨h, hp, hP _ hJ⟩
  · exact Or.inr (Or.inl ⟨y, k, as, r, mid, bc, bs, g1, g2, g3, g4, g5, g6, g7, hcl _ _ _ _ g8, fun v m' q1 q2 => hP _ (g9 v m' q1 q2)⟩)
  · refine Or.inr (Or.inr (Or.inl ?_))
    unfold mx_end at g ⊢
    split at g
    · exact ⟨g.1, g.2.1, hQ _ _ g.2.2⟩
    · obtain ⟨e, q1, q2, q3⟩ := g
      exact ⟨e, q1, q2, hQ _ _ q3⟩
    · obtain ⟨e, q1, q2, q3⟩ := g
      exact ⟨e, q1, q2, hQ _ _ q3⟩
    · exact g
  · exact Or.inr (Or.inr (Or.inr ⟨ls', m', g1, g2, g3, hP _ hJ⟩))
theorem mx_R_fold {cl : Nat → List mx_V → mx_M → mx_Q → Prop} {M : Nat} {Q : mx_Q} {c : mx_C} (h : mx_stp cl M Q (mx_R cl M Q) c) : mx_R cl M Q c := fun P hP => hP c (mx_stp_mono (fun _ _ _ _ q => q) (fun _ _ q => q) (fun c' h' => h' P hP) h)
theorem mx_R_mono {cl cl2 : Nat → List mx_V → mx_M → mx_Q → Prop} {M : Nat} {Q Q2 : mx_Q} {c : mx_C} (hcl : ∀ y as m q, cl y as m q → cl2 y as m q) (hQ : ∀ v m, Q v m → Q2 v m) (h : mx_R cl M Q c) : mx_R cl2 M Q2 c :=
  h (mx_R cl2 M Q2) (fun c hc => mx_R_fold (mx_stp_mono hcl hQ (fun _ q => q) hc))
theorem mx_call_up : ∀ (d y : Nat) (as : List mx_V) (m : mx_M) (Q Q2 : mx_Q), (∀ v m, Q v m → Q2 v m) → mx_call d y as m Q → mx_call (d + 1) y as m Q2 := by
  intro d
  induction d with
  | zero => intro y as m Q Q2 _ h; cases h
  | succ d ih =>
    intro y as m Q Q2 hQ h
    unfold mx_call at h ⊢
    by_cases y0 : y = 300
    · rw [if_pos y0] at h ⊢
      obtain ⟨j, h1, h2, h3⟩ := h
      exact ⟨j, h1, h2, hQ _ _ h3⟩
    · rw [if_neg y0] at h ⊢
      by_cases y1 : y = 301
      · rw [if_pos y1] at h ⊢
        obtain ⟨h0, j, k, h1, h2, h3, h4⟩ := h
        exact ⟨by omega, j, k, h1, h2, h3, hQ _ _ h4⟩
      · rw [if_neg y1] at h ⊢
        obtain ⟨h1, h2, h3, h4, h5⟩ := h
        exact ⟨h1, h2, h3, h4, mx_R_mono (fun y as m q hq => ih y as m q q (fun _ _ z => z) hq) hQ h5⟩
theorem mx_call_le {d d2 y : Nat} {as : List mx_V} {m : mx_M} {Q : mx_Q} (hd : d ≤ d2) (h : mx_call d y as m Q) : mx_call d2 y as m Q := by
  induction hd with
  | refl => exact h
  | step _ ih => exact mx_call_up _ _ _ _ _ _ (fun _ _ q => q) ih
abbrev rS : Type := Int → Int → Int
abbrev rQ : Type := Option mx_V → rS → Prop
def RS (d M : Nat) (Q : rQ) (pc : Nat) (ls : mx_L) (st : List mx_V) (S : rS) : Prop := mx_R (mx_call d) M (fun v m => ∃ S', m = mx_mm S' ∧ Q v S') (pc, ls, st, mx_mm S)
def CS (d y : Nat) (as : List mx_V) (S : rS) (Q : rQ) : Prop := mx_call d y as (mx_mm S) (fun v m => ∃ S', m = mx_mm S' ∧ Q v S')
theorem CS.le {d d2 y : Nat} {as : List mx_V} {S : rS} {Q : rQ} (h : CS d y as S Q) (hd : d ≤ d2) : CS d2 y as S Q := mx_call_le hd h
theorem CS.post {d y : Nat} {as : List mx_V} {S : rS} {Q Q2 : rQ} (h : CS d y as S Q) (hQ : ∀ v S', Q v S' → Q2 v S') : CS (d + 1) y as S Q2 := mx_call_up _ _ _ _ _ _ (fun v m q => by obtain ⟨S', h1, h2⟩ := q; exact ⟨S', h1, hQ _ _ h2⟩) h
theorem RS.start {d y : Nat} {as : List mx_V} {S : rS} {Q : rQ} {ls : mx_L} (h1 : (Nat.blt y mx_nm.length && !Nat.beq y 0) = true) (h2 : y ≠ 300 ∧ y ≠ 301) (h3 : as.length = mx_nA y) (h4 : Nat.ble (mx_lo as).length (mx_row y).2.2.2.1 = true) (h5 : mx_ini y as = ls) (h : RS d y Q 0 ls [] S) : CS (d + 1) y as S Q := by
  unfold CS mx_call
  rw [if_neg h2.1, if_neg h2.2]
  obtain ⟨g1, g2⟩ := Bool.and_eq_true_iff.mp h1
  refine ⟨Nat.le_of_ble_eq_true g1, fun q => ?_, h3, Nat.le_of_ble_eq_true h4, ?_⟩
  · subst q; cases g2
  · rw [h5]; exact h
section RUL
variable {d M pc pc' n : Nat} {z : Int} {Q : rQ} {ls ls' : mx_L} {st r : List mx_V} {S S' : rS} {a b v i : Int}
theorem r_nx {ai : Instr} {h : Nat} {op : Option Prop} {st' : List mx_V} (e : mx_kd M pc = (ai, n, z)) (hn : mx_nx ai n z h (pc, ls, st, mx_mm S) = (op, (pc', ls', st', mx_mm S'))) (hp : op.getD True) (K : RS d M Q pc' ls' st' S') : RS d M Q pc ls st S := by
  unfold RS at K ⊢
  refine mx_R_fold (Or.inl ⟨h, ?_, ?_⟩)
  · show (mx_nx (mx_kd M pc).1 (mx_kd M pc).2.1 (mx_kd M pc).2.2 h (pc, ls, st, mx_mm S)).1.getD True
    rw [e, hn]; exact hp
  · show mx_R _ _ _ (mx_nx (mx_kd M pc).1 (mx_kd M pc).2.1 (mx_kd M pc).2.2 h (pc, ls, st, mx_mm S)).2
    rw [e, hn]; exact K
theorem r_sub {ls2 : mx_L} (hl : ls2.length = ls.length) (hs : ∀ i v, ls2.getD i none = some v → ls.getD i none = some v) (K : RS d M Q pc ls2 st S) : RS d M Q pc ls st S := by
  unfold RS at K ⊢
  exact mx_R_fold (Or.inr (Or.inr (Or.inr ⟨ls2, mx_mm S, hl, hs, ⟨rfl, rfl, rfl, rfl, fun _ _ _ _ _ _ => ⟨rfl, rfl⟩⟩, K⟩)))
/-- some locals are forgotten -/
def mx_fg : mx_L → List Bool → mx_L
  | [], _ => []
  | v :: l, true :: k => v :: mx_fg l k
  | _ :: l, _ :: k => none :: mx_fg l k
  | l, [] => l
theorem mx_fg_len : ∀ (l : mx_L) (k : List Bool), (mx_fg l k).length = l.length
  | [], _ => rfl
  | v :: l, true :: k => congrArg (· + 1) (mx_fg_len l k)
  | v :: l, false :: k => congrArg (· + 1) (mx_fg_len l k)
  | v :: l, [] => rfl
theorem mx_fg_get : ∀ (l : mx_L) (k : List Bool) (i : Nat) (v : mx_V), (mx_fg l k).getD i none = some v → l.getD i none = some v
  | [], _, i, v, h => h
  | u :: l, true :: k, 0, v, h => h
  | u :: l, true :: k, i + 1, v, h => mx_fg_get l k i v h
  | u :: l, false :: k, 0, v, h => by cases h
  | u :: l, false :: k, i + 1, v, h => mx_fg_get l k i v h
  | u :: l, [], i, v, h => h
theorem r_forget (k : List Bool) (hl : mx_fg ls k = ls') (K : RS d M Q pc ls' st S) : RS d M Q pc ls st S := by
  subst hl
  exact r_sub (mx_fg_len ls k) (mx_fg_get ls k) K
theorem r_const (e : mx_kd M pc = (.iconst v, n, z)) (hpc : pc + n = pc') (K : RS d M Q pc' ls (.inl v :: st) S) : RS d M Q pc ls st S := r_nx (h := 0) (op := none) e (by subst hpc; rfl) trivial K
theorem r_lcon (e : mx_kd M pc = (.sipush v, n, z)) (hpc : pc + n = pc') (K : RS d M Q pc' ls (.inr (.inl v) :: st) S) : RS d M Q pc ls st S := r_nx (h := 0) (op := none) e (by subst hpc; rfl) trivial K
theorem r_ldc {k : Nat} (e : mx_kd M pc = (.ldc k, n, z)) (hpc : pc + n = pc') (hv : -3 - (k : Int) = v) (K : RS d M Q pc' ls (.inr (.inr v) :: st) S) : RS d M Q pc ls st S := r_nx (h := 0) (op := none) e (by subst hpc; subst hv; rfl) trivial K
theorem r_iload {k : Nat} (e : mx_kd M pc = (.iload k, n, z)) (hpc : pc + n = pc') (hv : ls.getD k none = some (.inl v)) (K : RS d M Q pc' ls (.inl v :: st) S) : RS d M Q pc ls st S := r_nx (h := 0) (op := none) e (by subst hpc; simp only [mx_nx, hv]; rfl) trivial K
theorem r_lload {k : Nat} (e : mx_kd M pc = (.lload k, n, z)) (hpc : pc + n = pc') (hv : ls.getD k none = some (.inr (.inl v))) (K : RS d M Q pc' ls (.inr (.inl v) :: st) S) : RS d M Q pc ls st S := r_nx (h := 0) (op := none) e (by subst hpc; simp only [mx_nx, hv]; rfl) trivial K
theorem r_aload {k : Nat} (e : mx_kd M pc = (.aload k, n, z)) (hpc : pc + n = pc') (hv : ls.getD k none = some (.inr (.inr v))) (K : RS d M Q pc' ls (.inr (.inr v) :: st) S) : RS d M Q pc ls st S := r_nx (h := 0) (op := none) e (by subst hpc; simp only [mx_nx, hv]; rfl) trivial K
theorem r_istore {k : Nat} (e : mx_kd M pc = (.istore k, n, z)) (hpc : pc + n = pc') (hg : (!mx_lg ls k && Nat.blt k ls.length) = true) (hl : ls.set k (some (.inl v)) = ls') (K : RS d M Q pc' ls' st S) : RS d M Q pc ls (.inl v :: st) S := r_nx (h := 0) (op := none) e (by subst hpc; subst hl; simp only [mx_nx, hg]; rfl) trivial K
theorem r_astore {k : Nat} (e : mx_kd M pc = (.astore k, n, z)) (hpc : pc + n = pc') (hg : (!mx_lg ls k && Nat.blt k ls.length) = true) (hl : ls.set k (some (.inr (.inr v))) = ls') (K : RS d M Q pc' ls' st S) : RS d M Q pc ls (.inr (.inr v) :: st) S := r_nx (h := 0) (op := none) e (by subst hpc; subst hl; simp only [mx_nx, hg]; rfl) trivial K
theorem r_lstore {k : Nat} (e : mx_kd M pc = (.lstore k, n, z)) (hpc : pc + n = pc') (hg : (!mx_lg ls k && Nat.blt (k + 1) ls.length) = true) (hl : (ls.set k (some (.inr (.inl v)))).set (k + 1) none = ls') (K : RS d M Q pc' ls' st S) : RS d M Q pc ls (.inr (.inl v) :: st) S := r_nx (h := 0) (op := none) e (by subst hpc; subst hl; simp only [mx_nx, hg]; rfl) trivial K
theorem r_iinc {k : Nat} {c : Int} (e : mx_kd M pc = (.iinc k c, n, z)) (hpc : pc + n = pc') (hv : ls.getD k none = some (.inl v)) (hg : (!mx_lg ls k && Nat.blt k ls.length) = true) (hl : ls.set k (some (.inl (v + c))) = ls') (K : RS d M Q pc' ls' st S) : RS d M Q pc ls st S := r_nx (h := 0) (op := none) e (by subst hpc; subst hl; simp only [mx_nx, hv, hg]; rfl) trivial K

theorem r_iadd (e : mx_kd M pc = (.iadd, n, z)) (hpc : pc + n = pc') (K : RS d M Q pc' ls (.inl (a + b) :: st) S) : RS d M Q pc ls (.inl b :: .inl a :: st) S := r_nx (h := 0) (op := none) e (by subst hpc; rfl) trivial K
theorem r_isub (e : mx_kd M pc = (.isub, n, z)) (hpc : pc + n = pc') (K : RS d M Q pc' ls (.inl (a - b) :: st) S) : RS d M Q pc ls (.inl b :: .inl a :: st) S := r_nx (h := 0) (op := none) e (by subst hpc; rfl) trivial K
theorem r_imul (e : mx_kd M pc = (.imul, n, z)) (hpc : pc + n = pc') (K : RS d M Q pc' ls (.inl (a * b) :: st) S) : RS d M Q pc ls (.inl b :: .inl a :: st) S := r_nx (h := 0) (op := none) e (by subst hpc; rfl) trivial K
theorem r_iand (e : mx_kd M pc = (.iand, n, z)) (hpc : pc + n = pc') (K : RS d M Q pc' ls (.inl (mx_and a b) :: st) S) : RS d M Q pc ls (.inl b :: .inl a :: st) S := r_nx (h := 0) (op := none) e (by subst hpc; rfl) trivial K
theorem r_ior (e : mx_kd M pc = (.ior, n, z)) (hpc : pc + n = pc') (K : RS d M Q pc' ls (.inl (mx_or a b) :: st) S) : RS d M Q pc ls (.inl b :: .inl a :: st) S := r_nx (h := 0) (op := none) e (by subst hpc; rfl) trivial K
theorem r_ixor (e : mx_kd M pc = (.ixor, n, z)) (hpc : pc + n = pc') (K : RS d M Q pc' ls (.inl (mx_xor a b) :: st) S) : RS d M Q pc ls (.inl b :: .inl a :: st) S := r_nx (h := 0) (op := none) e (by subst hpc; rfl) trivial K
theorem r_ishl (e : mx_kd M pc = (.ishl, n, z)) (hpc : pc + n = pc') (K : RS d M Q pc' ls (.inl (mx_shl a b) :: st) S) : RS d M Q pc ls (.inl b :: .inl a :: st) S := r_nx (h := 0) (op := none) e (by subst hpc; rfl) trivial K
theorem r_ishr (e : mx_kd M pc = (.ishr, n, z)) (hpc : pc + n = pc') (K : RS d M Q pc' ls (.inl (mx_shr a b) :: st) S) : RS d M Q pc ls (.inl b :: .inl a :: st) S := r_nx (h := 0) (op := none) e (by subst hpc; rfl) trivial K
theorem r_iushr (e : mx_kd M pc = (.iushr, n, z)) (hpc : pc + n = pc') (K : RS d M Q pc' ls (.inl (mx_ushr a b) :: st) S) : RS d M Q pc ls (.inl b :: .inl a :: st) S := r_nx (h := 0) (op := none) e (by subst hpc; rfl) trivial K
theorem r_idiv (e : mx_kd M pc = (.idiv, n, z)) (hpc : pc + n = pc') (hp : (0 ≤ a ∧ a < 2147483648) ∧ 0 < b ∧ b < 2147483648) (K : RS d M Q pc' ls (.inl (a / b) :: st) S) : RS d M Q pc ls (.inl b :: .inl a :: st) S := r_nx (h := 0) (op := some _) e (by subst hpc; rfl) hp K
theorem r_irem (e : mx_kd M pc = (.irem, n, z)) (hpc : pc + n = pc') (hp : (0 ≤ a ∧ a < 2147483648) ∧ 0 < b ∧ b < 2147483648) (K : RS d M Q pc' ls (.inl (a % b) :: st) S) : RS d M Q pc ls (.inl b :: .inl a :: st) S := r_nx (h := 0) (op := some _) e (by subst hpc; rfl) hp K
theorem r_ladd (e : mx_kd M pc = (.ladd, n, z)) (hpc : pc + n = pc') (K : RS d M Q pc' ls (.inr (.inl (a + b)) :: st) S) : RS d M Q pc ls (.inr (.inl b) :: .inr (.inl a) :: st) S := r_nx (h := 0) (op := none) e (by subst hpc; rfl) trivial K
theorem r_lsub (e : mx_kd M pc = (.lsub, n, z)) (hpc : pc + n = pc') (K : RS d M Q pc' ls (.inr (.inl (a - b)) :: st) S) : RS d M Q pc ls (.inr (.inl b) :: .inr (.inl a) :: st) S := r_nx (h := 0) (op := none) e (by subst hpc; rfl) trivial K
theorem r_lmul (e : mx_kd M pc = (.lmul, n, z)) (hpc : pc + n = pc') (K : RS d M Q pc' ls (.inr (.inl (a * b)) :: st) S) : RS d M Q pc ls (.inr (.inl b) :: .inr (.inl a) :: st) S := r_nx (h := 0) (op := none) e (by subst hpc; rfl) trivial K
theorem r_ldiv (e : mx_kd M pc = (.ldiv, n, z)) (hpc : pc + n = pc') (hp : (0 ≤ a ∧ a < 9223372036854775808) ∧ 0 < b ∧ b < 9223372036854775808) (K : RS d M Q pc' ls (.inr (.inl (a / b)) :: st) S) : RS d M Q pc ls (.inr (.inl b) :: .inr (.inl a) :: st) S := r_nx (h := 0) (op := some _) e (by subst hpc; rfl) hp K
theorem r_lrem (e : mx_kd M pc = (.lrem, n, z)) (hpc : pc + n = pc') (hp : (0 ≤ a ∧ a < 9223372036854775808) ∧ 0 < b ∧ b < 9223372036854775808) (K : RS d M Q pc' ls (.inr (.inl (a % b)) :: st) S) : RS d M Q pc ls (.inr (.inl b) :: .inr (.inl a) :: st) S := r_nx (h := 0) (op := some _) e (by subst hpc; rfl) hp K
theorem r_lcmp (e : mx_kd M pc = (.lcmp, n, z)) (hpc : pc + n = pc') (hp : (-9223372036854775808 ≤ a ∧ a < 9223372036854775808) ∧ -9223372036854775808 ≤ b ∧ b < 9223372036854775808) (K : RS d M Q pc' ls (.inl (mx_cmp a b) :: st) S) : RS d M Q pc ls (.inr (.inl b) :: .inr (.inl a) :: st) S := r_nx (h := 0) (op := some _) e (by subst hpc; rfl) hp K
theorem r_i2l (e : mx_kd M pc = (.i2l, n, z)) (hpc : pc + n = pc') (hp : -2147483648 ≤ a ∧ a < 2147483648) (K : RS d M Q pc' ls (.inr (.inl a) :: st) S) : RS d M Q pc ls (.inl a :: st) S := r_nx (h := 0) (op := some _) e (by subst hpc; rfl) hp K
theorem r_l2i (e : mx_kd M pc = (.l2i, n, z)) (hpc : pc + n = pc') (K : RS d M Q pc' ls (.inl a :: st) S) : RS d M Q pc ls (.inr (.inl a) :: st) S := r_nx (h := 0) (op := none) e (by subst hpc; rfl) trivial K
theorem r_i2b (e : mx_kd M pc = (.i2b, n, z)) (hpc : pc + n = pc') (K : RS d M Q pc' ls (.inl (mx_i2b a) :: st) S) : RS d M Q pc ls (.inl a :: st) S := r_nx (h := 0) (op := none) e (by subst hpc; rfl) trivial K
theorem r_i2s (e : mx_kd M pc = (.i2s, n, z)) (hpc : pc + n = pc') (K : RS d M Q pc' ls (.inl (mx_i2s a) :: st) S) : RS d M Q pc ls (.inl a :: st) S := r_nx (h := 0) (op := none) e (by subst hpc; rfl) trivial K
theorem r_dupi (e : mx_kd M pc = (.dup, n, z)) (hpc : pc + n = pc') (K : RS d M Q pc' ls (.inl a :: .inl a :: st) S) : RS d M Q pc ls (.inl a :: st) S := r_nx (h := 0) (op := none) e (by subst hpc; rfl) trivial K
theorem r_dupr (e : mx_kd M pc = (.dup, n, z)) (hpc : pc + n = pc') (K : RS d M Q pc' ls (.inr (.inr a) :: .inr (.inr a) :: st) S) : RS d M Q pc ls (.inr (.inr a) :: st) S := r_nx (h := 0) (op := none) e (by subst hpc; rfl) trivial K
theorem r_dup2 (e : mx_kd M pc = (.dup2, n, z)) (hpc : pc + n = pc') (K : RS d M Q pc' ls (.inl i :: .inr (.inr a) :: .inl i :: .inr (.inr a) :: st) S) : RS d M Q pc ls (.inl i :: .inr (.inr a) :: st) S := r_nx (h := 0) (op := none) e (by subst hpc; rfl) trivial K
theorem r_popi (e : mx_kd M pc = (.pop, n, z)) (hpc : pc + n = pc') (K : RS d M Q pc' ls st S) : RS d M Q pc ls (.inl a :: st) S := r_nx (h := 0) (op := none) e (by subst hpc; rfl) trivial K
theorem r_min (e : mx_kd M pc = (.invokedynamic 3, n, z)) (hpc : pc + n = pc') (hp : ((-2147483648 ≤ a ∧ a < 2147483648) ∧ -2147483648 ≤ b ∧ b < 2147483648) ∧ (st.map mx_cat).sum ≤ 8) (K : RS d M Q pc' ls (.inl (mx_min a b) :: st) S) : RS d M Q pc ls (.inl b :: .inl a :: st) S := r_nx (h := 0) (op := some _) e (by subst hpc; rfl) hp K
theorem r_max (e : mx_kd M pc = (.invokedynamic 4, n, z)) (hpc : pc + n = pc') (hp : ((-2147483648 ≤ a ∧ a < 2147483648) ∧ -2147483648 ≤ b ∧ b < 2147483648) ∧ (st.map mx_cat).sum ≤ 8) (K : RS d M Q pc' ls (.inl (mx_max a b) :: st) S) : RS d M Q pc ls (.inl b :: .inl a :: st) S := r_nx (h := 0) (op := some _) e (by subst hpc; rfl) hp K
theorem r_goto {t : Int} (e : mx_kd M pc = (.goto t, n, z)) (hpc : t.toNat = pc') (K : RS d M Q pc' ls st S) : RS d M Q pc ls st S := r_nx (h := 0) (op := none) e (by subst hpc; rfl) trivial K
theorem r_icmp_eq1 {t : Int} (e : mx_kd M pc = (.if_icmp .eq t, n, z)) (hpc : t.toNat = pc') (hr : (-2147483648 ≤ a ∧ a < 2147483648) ∧ -2147483648 ≤ b ∧ b < 2147483648) (h : a = b) (K : RS d M Q pc' ls st S) : RS d M Q pc ls (.inl b :: .inl a :: st) S := r_nx (h := 1) (op := some _) e (by subst hpc; rfl) (And.intro hr h) K
theorem r_icmp_eq0 {t : Int} (e : mx_kd M pc = (.if_icmp .eq t, n, z)) (hpc : pc + n = pc') (hr : (-2147483648 ≤ a ∧ a < 2147483648) ∧ -2147483648 ≤ b ∧ b < 2147483648) (h : a ≠ b) (K : RS d M Q pc' ls st S) : RS d M Q pc ls (.inl b :: .inl a :: st) S := r_nx (h := 0) (op := some _) e (by subst hpc; rfl) (And.intro hr h) K
theorem r_if_eq1 {t : Int} (e : mx_kd M pc = (.ifCond .eq t, n, z)) (hpc : t.toNat = pc') (hr : -2147483648 ≤ a ∧ a < 2147483648) (h : a = 0) (K : RS d M Q pc' ls st S) : RS d M Q pc ls (.inl a :: st) S := r_nx (h := 1) (op := some _) e (by subst hpc; rfl) (And.intro hr h) K
theorem r_if_eq0 {t : Int} (e : mx_kd M pc = (.ifCond .eq t, n, z)) (hpc : pc + n = pc') (hr : -2147483648 ≤ a ∧ a < 2147483648) (h : a ≠ 0) (K : RS d M Q pc' ls st S) : RS d M Q pc ls (.inl a :: st) S := r_nx (h := 0) (op := some _) e (by subst hpc; rfl) (And.intro hr h) K
theorem r_icmp_ne1 {t : Int} (e : mx_kd M pc = (.if_icmp .ne t, n, z)) (hpc : t.toNat = pc') (hr : (-2147483648 ≤ a ∧ a < 2147483648) ∧ -2147483648 ≤ b ∧ b < 2147483648) (h : a ≠ b) (K : RS d M Q pc' ls st S) : RS d M Q pc ls (.inl b :: .inl a :: st) S := r_nx (h := 1) (op := some _) e (by subst hpc; rfl) (And.intro hr h) K
theorem r_icmp_ne0 {t : Int} (e : mx_kd M pc = (.if_icmp .ne t, n, z)) (hpc : pc + n = pc') (hr : (-2147483648 ≤ a ∧ a < 2147483648) ∧ -2147483648 ≤ b ∧ b < 2147483648) (h : a = b) (K : RS d M Q pc' ls st S) : RS d M Q pc ls (.inl b :: .inl a :: st) S := r_nx (h := 0) (op := some _) e (by subst hpc; rfl) (And.intro hr h) K
theorem r_if_ne1 {t : Int} (e : mx_kd M pc = (.ifCond .ne t, n, z)) (hpc : t.toNat = pc') (hr : -2147483648 ≤ a ∧ a < 2147483648) (h : a ≠ 0) (K : RS d M Q pc' ls st S) : RS d M Q pc ls (.inl a :: st) S := r_nx (h := 1) (op := some _) e (by subst hpc; rfl) (And.intro hr h) K
theorem r_if_ne0 {t : Int} (e : mx_kd M pc = (.ifCond .ne t, n, z)) (hpc : pc + n = pc') (hr : -2147483648 ≤ a ∧ a < 2147483648) (h : a = 0) (K : RS d M Q pc' ls st S) : RS d M Q pc ls (.inl a :: st) S := r_nx (h := 0) (op := some _) e (by subst hpc; rfl) (And.intro hr h) K
theorem r_icmp_lt1 {t : Int} (e : mx_kd M pc = (.if_icmp .lt t, n, z)) (hpc : t.toNat = pc') (hr : (-2147483648 ≤ a ∧ a < 2147483648) ∧ -2147483648 ≤ b ∧ b < 2147483648) (h : a < b) (K : RS d M Q pc' ls st S) : RS d M Q pc ls (.inl b :: .inl a :: st) S := r_nx (h := 1) (op := some _) e (by subst hpc; rfl) (And.intro hr h) K
theorem r_icmp_lt0 {t : Int} (e : mx_kd M pc = (.if_icmp .lt t, n, z)) (hpc : pc + n = pc') (hr : (-2147483648 ≤ a ∧ a < 2147483648) ∧ -2147483648 ≤ b ∧ b < 2147483648) (h : b ≤ a) (K : RS d M Q pc' ls st S) : RS d M Q pc ls (.inl b :: .inl a :: st) S := r_nx (h := 0) (op := some _) e (by subst hpc; rfl) (And.intro hr h) K
theorem r_if_lt1 {t : Int} (e : mx_kd M pc = (.ifCond .lt t, n, z)) (hpc : t.toNat = pc') (hr : -2147483648 ≤ a ∧ a < 2147483648) (h : a < 0) (K : RS d M Q pc' ls st S) : RS d M Q pc ls (.inl a :: st) S := r_nx (h := 1) (op := some _) e (by subst hpc; rfl) (And.intro hr h) K
theorem r_if_lt0 {t : Int} (e : mx_kd M pc = (.ifCond .lt t, n, z)) (hpc : pc + n = pc') (hr : -2147483648 ≤ a ∧ a < 2147483648) (h : 0 ≤ a) (K : RS d M Q pc' ls st S) : RS d M Q pc ls (.inl a :: st) S := r_nx (h := 0) (op := some _) e (by subst hpc; rfl) (And.intro hr h) K
theorem r_icmp_ge1 {t : Int} (e : mx_kd M pc = (.if_icmp .ge t, n, z)) (hpc : t.toNat = pc') (hr : (-2147483648 ≤ a ∧ a < 2147483648) ∧ -2147483648 ≤ b ∧ b < 2147483648) (h : b ≤ a) (K : RS d M Q pc' ls st S) : RS d M Q pc ls (.inl b :: .inl a :: st) S := r_nx (h := 1) (op := some _) e (by subst hpc; rfl) (And.intro hr h) K
theorem r_icmp_ge0 {t : Int} (e : mx_kd M pc = (.if_icmp .ge t, n, z)) (hpc : pc + n = pc') (hr : (-2147483648 ≤ a ∧ a < 2147483648) ∧ -2147483648 ≤ b ∧ b < 2147483648) (h : a < b) (K : RS d M Q pc' ls st S) : RS d M Q pc ls (.inl b :: .inl a :: st) S := r_nx (h := 0) (op := some _) e (by subst hpc; rfl) (And.intro hr h) K
theorem r_if_ge1 {t : Int} (e : mx_kd M pc = (.ifCond .ge t, n, z)) (hpc : t.toNat = pc') (hr : -2147483648 ≤ a ∧ a < 2147483648) (h : 0 ≤ a) (K : RS d M Q pc' ls st S) : RS d M Q pc ls (.inl a :: st) S := r_nx (h := 1) (op := some _) e (by subst hpc; rfl) (And.intro hr h) K
theorem r_if_ge0 {t : Int} (e : mx_kd M pc = (.ifCond .ge t, n, z)) (hpc : pc + n = pc') (hr : -2147483648 ≤ a ∧ a < 2147483648) (h : a < 0) (K : RS d M Q pc' ls st S) : RS d M Q pc ls (.inl a :: st) S := r_nx (h := 0) (op := some _) e (by subst hpc; rfl) (And.intro hr h) K
theorem r_icmp_gt1 {t : Int} (e : mx_kd M pc = (.if_icmp .gt t, n, z)) (hpc : t.toNat = pc') (hr : (-2147483648 ≤ a ∧ a < 2147483648) ∧ -2147483648 ≤ b ∧ b < 2147483648) (h : b < a) (K : RS d M Q pc' ls st S) : RS d M Q pc ls (.inl b :: .inl a :: st) S := r_nx (h := 1) (op := some _) e (by subst hpc; rfl) (And.intro hr h) K
theorem r_icmp_gt0 {t : Int} (e : mx_kd M pc = (.if_icmp .gt t, n, z)) (hpc : pc + n = pc') (hr : (-2147483648 ≤ a ∧ a < 2147483648) ∧ -2147483648 ≤ b ∧ b < 2147483648) (h : a ≤ b) (K : RS d M Q pc' ls st S) : RS d M Q pc ls (.inl b :: .inl a :: st) S := r_nx (h := 0) (op := some _) e (by subst hpc; rfl) (And.intro hr h) K
theorem r_if_gt1 {t : Int} (e : mx_kd M pc = (.ifCond .gt t, n, z)) (hpc : t.toNat = pc') (hr : -2147483648 ≤ a ∧ a < 2147483648) (h : 0 < a) (K : RS d M Q pc' ls st S) : RS d M Q pc ls (.inl a :: st) S := r_nx (h := 1) (op := some _) e (by subst hpc; rfl) (And.intro hr h) K
theorem r_if_gt0 {t : Int} (e : mx_kd M pc = (.ifCond .gt t, n, z)) (hpc : pc + n = pc') (hr : -2147483648 ≤ a ∧ a < 2147483648) (h : a ≤ 0) (K : RS d M Q pc' ls st S) : RS d M Q pc ls (.inl a :: st) S := r_nx (h := 0) (op := some _) e (by subst hpc; rfl) (And.intro hr h) K
theorem r_icmp_le1 {t : Int} (e : mx_kd M pc = (.if_icmp .le t, n, z)) (hpc : t.toNat = pc') (hr : (-2147483648 ≤ a ∧ a < 2147483648) ∧ -2147483648 ≤ b ∧ b < 2147483648) (h : a ≤ b) (K : RS d M Q pc' ls st S) : RS d M Q pc ls (.inl b :: .inl a :: st) S := r_nx (h := 1) (op := some _) e (by subst hpc; rfl) (And.intro hr h) K
theorem r_icmp_le0 {t : Int} (e : mx_kd M pc = (.if_icmp .le t, n, z)) (hpc : pc + n = pc') (hr : (-2147483648 ≤ a ∧ a < 2147483648) ∧ -2147483648 ≤ b ∧ b < 2147483648) (h : b < a) (K : RS d M Q pc' ls st S) : RS d M Q pc ls (.inl b :: .inl a :: st) S := r_nx (h := 0) (op := some _) e (by subst hpc; rfl) (And.intro hr h) K
theorem r_if_le1 {t : Int} (e : mx_kd M pc = (.ifCond .le t, n, z)) (hpc : t.toNat = pc') (hr : -2147483648 ≤ a ∧ a < 2147483648) (h : a ≤ 0) (K : RS d M Q pc' ls st S) : RS d M Q pc ls (.inl a :: st) S := r_nx (h := 1) (op := some _) e (by subst hpc; rfl) (And.intro hr h) K
theorem r_if_le0 {t : Int} (e : mx_kd M pc = (.ifCond .le t, n, z)) (hpc : pc + n = pc') (hr : -2147483648 ≤ a ∧ a < 2147483648) (h : 0 < a) (K : RS d M Q pc' ls st S) : RS d M Q pc ls (.inl a :: st) S := r_nx (h := 0) (op := some _) e (by subst hpc; rfl) (And.intro hr h) K
theorem r_get {q : Nat} (e : mx_kd M pc = (.getfield q, n, z)) (hpc : pc + n = pc') (hf : mx_fty q = 0 ∨ mx_fty q = 3) (hs : mx_shp (mx_mm S) a = (q / 256, 0)) (K : RS d M Q pc' ls (.inl (S a z) :: st) S) : RS d M Q pc ls (.inr (.inr a) :: st) S :=
  r_nx (h := 0) (op := some (mx_shp (mx_mm S) a = (q / 256, 0))) e (by subst hpc; rcases hf with hf | hf <;> (simp only [mx_nx, hf]; rfl)) hs K
theorem r_getl {q : Nat} (e : mx_kd M pc = (.getfield q, n, z)) (hpc : pc + n = pc') (hf : mx_fty q = 1) (hs : mx_shp (mx_mm S) a = (q / 256, 0)) (K : RS d M Q pc' ls (.inr (.inl (S a z)) :: st) S) : RS d M Q pc ls (.inr (.inr a) :: st) S :=
  r_nx (h := 0) (op := some (mx_shp (mx_mm S) a = (q / 256, 0))) e (by subst hpc; simp only [mx_nx, hf]; rfl) hs K
theorem r_getr {q : Nat} (e : mx_kd M pc = (.getfield q, n, z)) (hpc : pc + n = pc') (hf : mx_fty q = 2) (hs : mx_shp (mx_mm S) a = (q / 256, 0)) (hv : mx_RF a z = v) (K : RS d M Q pc' ls (.inr (.inr v) :: st) S) : RS d M Q pc ls (.inr (.inr a) :: st) S :=
  r_nx (h := 0) (op := some (mx_shp (mx_mm S) a = (q / 256, 0))) e (by subst hpc; subst hv; simp only [mx_nx, hf]; rfl) hs K
theorem r_put {q : Nat} (e : mx_kd M pc = (.putfield q, n, z)) (hpc : pc + n = pc') (hf : mx_fty q = 0) (hs : mx_shp (mx_mm S) a = (q / 256, 0)) (K : RS d M Q pc' ls st (mx_up S a z v)) : RS d M Q pc ls (.inl v :: .inr (.inr a) :: st) S :=
  r_nx (h := 0) (op := some (mx_shp (mx_mm S) a = (q / 256, 0))) e (by subst hpc; simp only [mx_nx, hf]) hs K
theorem r_putz {q : Nat} (e : mx_kd M pc = (.putfield q, n, z)) (hpc : pc + n = pc') (hf : mx_fty q = 3) (hs : mx_shp (mx_mm S) a = (q / 256, 0)) (h01 : v = 0 ∨ v = 1) (K : RS d M Q pc' ls st (mx_up S a z v)) : RS d M Q pc ls (.inl v :: .inr (.inr a) :: st) S :=
  r_nx (h := 0) (op := some (mx_shp (mx_mm S) a = (q / 256, 0) ∧ (v = 0 ∨ v = 1))) e (by subst hpc; simp only [mx_nx, hf]) ⟨hs, h01⟩ K
theorem r_putl {q : Nat} (e : mx_kd M pc = (.putfield q, n, z)) (hpc : pc + n = pc') (hf : mx_fty q = 1) (hs : mx_shp (mx_mm S) a = (q / 256, 0)) (K : RS d M Q pc' ls st (mx_up S a z v)) : RS d M Q pc ls (.inr (.inl v) :: .inr (.inr a) :: st) S :=
  r_nx (h := 0) (op := some (mx_shp (mx_mm S) a = (q / 256, 0))) e (by subst hpc; simp only [mx_nx, hf]) hs K
theorem r_ald (h : Nat) (e : mx_kd M pc = (.iaload, n, z)) (hpc : pc + n = pc') (hs : mx_shp (mx_mm S) a = (100, h)) (hi : 0 ≤ i ∧ i < (h : Int)) (K : RS d M Q pc' ls (.inl (S a i) :: st) S) : RS d M Q pc ls (.inl i :: .inr (.inr a) :: st) S :=
  r_nx (h := h) (op := some (mx_shp (mx_mm S) a = (100, h) ∧ 0 ≤ i ∧ i < (h : Int))) e (by subst hpc; rfl) ⟨hs, hi⟩ K
theorem r_bald (h : Nat) (e : mx_kd M pc = (.baload, n, z)) (hpc : pc + n = pc') (hs : mx_shp (mx_mm S) a = (101, h)) (hi : 0 ≤ i ∧ i < (h : Int)) (K : RS d M Q pc' ls (.inl (S a i) :: st) S) : RS d M Q pc ls (.inl i :: .inr (.inr a) :: st) S :=
  r_nx (h := h) (op := some (mx_shp (mx_mm S) a = (101, h) ∧ 0 ≤ i ∧ i < (h : Int))) e (by subst hpc; rfl) ⟨hs, hi⟩ K
theorem r_aald (h : Nat) (e : mx_kd M pc = (.aaload, n, z)) (hpc : pc + n = pc') (hh : (Nat.ble 102 (h / 1000) && Nat.ble (h / 1000) 104) = true) (hs : mx_shp (mx_mm S) a = (h / 1000, h % 1000)) (hi : 0 ≤ i ∧ i < ((h % 1000 : Nat) : Int)) (hv : mx_RF a i = v) (K : RS d M Q pc' ls (.inr (.inr v) :: st) S) : RS d M Q pc ls (.inl i :: .inr (.inr a) :: st) S :=
  r_nx (h := h) (op := some (mx_shp (mx_mm S) a = (h / 1000, h % 1000) ∧ 0 ≤ i ∧ i < ((h % 1000 : Nat) : Int))) e (by subst hpc; subst hv; simp only [mx_nx, hh]; rfl) ⟨hs, hi⟩ K
theorem r_ast (h : Nat) (e : mx_kd M pc = (.iastore, n, z)) (hpc : pc + n = pc') (hs : mx_shp (mx_mm S) a = (100, h)) (hi : 0 ≤ i ∧ i < (h : Int)) (K : RS d M Q pc' ls st (mx_up S a i v)) : RS d M Q pc ls (.inl v :: .inl i :: .inr (.inr a) :: st) S :=
  r_nx (h := h) (op := some (mx_shp (mx_mm S) a = (100, h) ∧ 0 ≤ i ∧ i < (h : Int))) e (by subst hpc; rfl) ⟨hs, hi⟩ K
theorem r_bast (h : Nat) (e : mx_kd M pc = (.bastore, n, z)) (hpc : pc + n = pc') (hs : mx_shp (mx_mm S) a = (101, h)) (hi : 0 ≤ i ∧ i < (h : Int)) (h01 : v = 0 ∨ v = 1) (K : RS d M Q pc' ls st (mx_up S a i v)) : RS d M Q pc ls (.inl v :: .inl i :: .inr (.inr a) :: st) S :=
  r_nx (h := h) (op := some ((mx_shp (mx_mm S) a = (101, h) ∧ 0 ≤ i ∧ i < (h : Int)) ∧ (v = 0 ∨ v = 1))) e (by subst hpc; rfl) ⟨⟨hs, hi⟩, h01⟩ K
theorem r_tsw (h : Nat) {dd lo hi : Int} {offs : Array Int} (e : mx_kd M pc = (.tableswitch dd lo hi offs, n, z)) (hh : Nat.blt h offs.size = true) (hpc : (offs.getD h 0).toNat = pc') (hr : -2147483648 ≤ a ∧ a < 2147483648) (hk : a = lo + (h : Int)) (K : RS d M Q pc' ls st S) : RS d M Q pc ls (.inl a :: st) S :=
  r_nx (h := h) (op := some ((-2147483648 ≤ a ∧ a < 2147483648) ∧ a = lo + (h : Int))) e (by subst hpc; simp only [mx_nx, hh]; rfl) ⟨hr, hk⟩ K
theorem r_tswd {dd lo hi : Int} {offs : Array Int} (e : mx_kd M pc = (.tableswitch dd lo hi offs, n, z)) (hpc : dd.toNat = pc') (hr : -2147483648 ≤ a ∧ a < 2147483648) (hk : a < lo ∨ hi < a) (K : RS d M Q pc' ls st S) : RS d M Q pc ls (.inl a :: st) S :=
  r_nx (h := offs.size) (op := some ((-2147483648 ≤ a ∧ a < 2147483648) ∧ (a < lo ∨ hi < a))) e (by subst hpc; simp only [mx_nx, show Nat.blt offs.size offs.size = false by cases hb : Nat.blt offs.size offs.size with | false => rfl | true => exact absurd (Nat.le_of_ble_eq_true hb) (by omega)]; rfl) ⟨hr, hk⟩ K
theorem r_lsw (h : Nat) {dd : Int} {ps : Array (Int × Int)} (e : mx_kd M pc = (.lookupswitch dd ps, n, z)) (hh : Nat.blt h ps.size = true) (hpc : (ps.getD h (0, 0)).2.toNat = pc') (hk : a = (ps.getD h (0, 0)).1) (K : RS d M Q pc' ls st S) : RS d M Q pc ls (.inl a :: st) S :=
  r_nx (h := h) (op := some (a = (ps.getD h (0, 0)).1)) e (by subst hpc; simp only [mx_nx, hh]; rfl) hk K
theorem r_lswd {dd : Int} {ps : Array (Int × Int)} (e : mx_kd M pc = (.lookupswitch dd ps, n, z)) (hpc : dd.toNat = pc') (hr : -2147483648 ≤ a ∧ a < 2147483648) (hk : ∀ q ∈ ps.toList, a ≠ q.1) (K : RS d M Q pc' ls st S) : RS d M Q pc ls (.inl a :: st) S :=
  r_nx (h := ps.size) (op := some ((-2147483648 ≤ a ∧ a < 2147483648) ∧ ∀ q ∈ ps.toList, a ≠ q.1)) e (by subst hpc; simp only [mx_nx, show Nat.blt ps.size ps.size = false by cases hb : Nat.blt ps.size ps.size with | false => rfl | true => exact absurd (Nat.le_of_ble_eq_true hb) (by omega)]; rfl) ⟨hr, hk⟩ K
theorem r_cpy (h : Nat) {k j c : Int} (e : mx_kd M pc = (.invokedynamic 2, n, z)) (hpc : pc + n = pc') (hs : mx_shp (mx_mm S) a = (100, h) ∧ mx_shp (mx_mm S) c = (100, h) ∧ (st.map mx_cat).sum ≤ 8) (hi : (0 ≤ i ∧ i + k ≤ (h : Int)) ∧ (0 ≤ j ∧ j + k ≤ (h : Int)) ∧ 0 ≤ k) (K : RS d M Q pc' ls st (mx_cp S a i c j k)) : RS d M Q pc ls (.inl k :: .inl j :: .inr (.inr c) :: .inl i :: .inr (.inr a) :: st) S :=
  r_nx (h := h) (op := some ((mx_shp (mx_mm S) a = (100, h) ∧ mx_shp (mx_mm S) c = (100, h) ∧ (st.map mx_cat).sum ≤ 8) ∧ (0 ≤ i ∧ i + k ≤ (h : Int)) ∧ (0 ≤ j ∧ j + k ≤ (h : Int)) ∧ 0 ≤ k)) e (by subst hpc; rfl) ⟨hs, hi⟩ K
theorem r_fin {v : Option mx_V} (h : mx_end M (mx_kd M pc).1 st (mx_mm S) (fun v m => ∃ S', m = mx_mm S' ∧ Q v S')) : RS d M Q pc ls st S := mx_R_fold (Or.inr (Or.inr (Or.inl h)))
theorem r_iret (e : mx_kd M pc = (.ireturn, n, z)) (hr : (mx_row M).2.2.2.2.1 = some .int) (h : Q (some (.inl v)) S) : RS d M Q pc ls [.inl v] S := mx_R_fold (Or.inr (Or.inr (Or.inl (by
  show mx_end M (mx_kd M pc).1 _ _ _
  rw [e]
  exact ⟨v, rfl, Or.inl hr, S, rfl, h⟩))))
theorem r_zret (e : mx_kd M pc = (.ireturn, n, z)) (hr : (mx_row M).2.2.2.2.1 = some .boolean) (h01 : v = 0 ∨ v = 1) (h : Q (some (.inl v)) S) : RS d M Q pc ls [.inl v] S := mx_R_fold (Or.inr (Or.inr (Or.inl (by
  show mx_end M (mx_kd M pc).1 _ _ _
  rw [e]
  exact ⟨v, rfl, Or.inr ⟨hr, h01⟩, S, rfl, h⟩))))
theorem r_lret (e : mx_kd M pc = (.lreturn, n, z)) (hr : (mx_row M).2.2.2.2.1 = some .long) (h : Q (some (.inr (.inl v))) S) : RS d M Q pc ls [.inr (.inl v)] S := mx_R_fold (Or.inr (Or.inr (Or.inl (by
  show mx_end M (mx_kd M pc).1 _ _ _
  rw [e]
  exact ⟨v, rfl, hr, S, rfl, h⟩))))
theorem r_vret (e : mx_kd M pc = (.return_, n, z)) (hr : (mx_row M).2.2.2.2.1 = none) (h : Q none S) : RS d M Q pc ls [] S := mx_R_fold (Or.inr (Or.inr (Or.inl (by
  show mx_end M (mx_kd M pc).1 _ _ _
  rw [e]
  exact ⟨rfl, hr, S, rfl, h⟩))))
/-- a call: whatever its answer and memory are -/
theorem r_call {ai : Instr} {y k d0 : Nat} {as : List mx_V} {P : rQ} (e : mx_kd M pc = (ai, n, z)) (hcal : mx_cal ai = some (y, k)) (hc : CS d0 y as S P) (hd : d0 ≤ d) (hst : st = as.reverse ++ r) (hlen : as.length = mx_nA y) (hcat : (r.map mx_cat).sum ≤ 8) (hrecv : k ≠ 1 → k ≠ 4 → ∃ a t, as = .inr (.inr a) :: t ∧ mx_shp (mx_mm S) a = ((mx_row y).2.2.2.2.2.2.1, 0)) (hpc : pc + 3 = pc')
    (K : ∀ v S', P v S' → S' (-2) = S (-2) → RS d M Q pc' ls (mx_psh v r) S') : RS d M Q pc ls st S := by
  subst hpc
  refine mx_R_fold (Or.inr (Or.inl ⟨y, k, as, r, _, 0, 0, ?_, hst, hlen, hcat, hrecv, Nat.le_refl _, Nat.le_refl _, mx_call_le hd hc, fun v m' h1 h2 => ?_⟩))
  · show mx_cal (mx_kd M pc).1 = _
    rw [e]; exact hcal
  · obtain ⟨S', rfl, h3⟩ := h1
    exact K v S' h3 h2
/-- a call whose answer and memory are known -/
theorem r_callE {ai : Instr} {y k d0 : Nat} {as : List mx_V} {w : Option mx_V} {S2 : rS} {st' : List mx_V} (e : mx_kd M pc = (ai, n, z)) (hcal : mx_cal ai = some (y, k)) (hc : CS d0 y as S (fun v S' => v = w ∧ S' = S2)) (hd : d0 ≤ d) (hst : st = as.reverse ++ r) (hlen : as.length = mx_nA y) (hcat : (r.map mx_cat).sum ≤ 8) (hrecv : k ≠ 1 → k ≠ 4 → ∃ a t, as = .inr (.inr a) :: t ∧ mx_shp (mx_mm S) a = ((mx_row y).2.2.2.2.2.2.1, 0)) (hpc : pc + 3 = pc') (hst' : mx_psh w r = st')
    (K : RS d M Q pc' ls st' S2) : RS d M Q pc ls st S := r_call e hcal hc hd hst hlen hcat hrecv hpc (fun v S' h _ => by obtain ⟨rfl, rfl⟩ := h; subst hst'; exact K)
end RUL
theorem r_while {α : Type} {d M pc : Nat} {Q : rQ} (L : α → mx_L) (G : α → rS) (I : α → Prop) (μ : α → Nat) (h : ∀ a, I a → (∀ b, I b → μ b < μ a → RS d M Q pc (L b) [] (G b)) → RS d M Q pc (L a) [] (G a)) : ∀ a, I a → RS d M Q pc (L a) [] (G a) := by
  have key : ∀ n a, μ a < n → I a → RS d M Q pc (L a) [] (G a) := by
    intro n
    induction n with
    | zero => intro a ha; omega
    | succ n ih => intro a ha hI; exact h a hI (fun b hb hlt => ih b (by omega) hb)
  exact fun a hI => key (μ a + 1) a (Nat.lt_succ_self _) hI
theorem mx_i32 (x : Int32) : -2147483648 ≤ x.toInt ∧ x.toInt < 2147483648 := by
  have h1 := Int32.le_toInt x
  have h2 := Int32.toInt_lt x
  exact ⟨by omega, by omega⟩
theorem mx_and_r (a b : Int) : -2147483648 ≤ mx_and a b ∧ mx_and a b < 2147483648 := mx_i32 _
theorem mx_or_r (a b : Int) : -2147483648 ≤ mx_or a b ∧ mx_or a b < 2147483648 := mx_i32 _
theorem mx_xor_r (a b : Int) : -2147483648 ≤ mx_xor a b ∧ mx_xor a b < 2147483648 := mx_i32 _
theorem mx_shl_r (a b : Int) : -2147483648 ≤ mx_shl a b ∧ mx_shl a b < 2147483648 := mx_i32 _
theorem mx_shr_r (a b : Int) : -2147483648 ≤ mx_shr a b ∧ mx_shr a b < 2147483648 := mx_i32 _
theorem mx_ushr_r (a b : Int) : -2147483648 ≤ mx_ushr a b ∧ mx_ushr a b < 2147483648 := mx_i32 _
theorem mx_i2b_r (a : Int) : -2147483648 ≤ mx_i2b a ∧ mx_i2b a < 2147483648 := mx_i32 _
theorem mx_i2s_r (a : Int) : -2147483648 ≤ mx_i2s a ∧ mx_i2s a < 2147483648 := mx_i32 _
