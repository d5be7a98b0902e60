/-! THE START -/
theorem cnd_le {p : Bool} {a b c : Int} (ha : a ≤ c) (hb : b ≤ c) : (bif p then a else b) ≤ c := by cases p <;> assumption
theorem cnd_ge {p : Bool} {a b c : Int} (ha : c ≤ a) (hb : c ≤ b) : c ≤ (bif p then a else b) := by cases p <;> assumption
theorem ite_le0 {p : Prop} [Decidable p] {a b c : Int} (ha : a ≤ c) (hb : b ≤ c) : (if p then a else b) ≤ c := by split <;> assumption
theorem ite_ge0 {p : Prop} [Decidable p] {a b c : Int} (ha : c ≤ a) (hb : c ≤ b) : c ≤ (if p then a else b) := by split <;> assumption
set_option maxRecDepth 100000 in
theorem bd_l0 (a j : Int) : bd_lo a j ≤ 0 := by
  cases a with
  | negSucc x => exact (show (-2147483648 : Int) ≤ 0 by decide)
  | ofNat x =>
    unfold bd_lo
    dsimp only
    repeat' (first | apply cnd_le | apply ite_le0)
    all_goals decide
set_option maxRecDepth 100000 in
theorem bd_h0 (a j : Int) : 0 ≤ bd_hi a j := by
  cases a with
  | negSucc x => exact (show (0 : Int) ≤ 2147483647 by decide)
  | ofNat x =>
    unfold bd_hi
    dsimp only
    repeat' (first | apply cnd_ge | apply ite_ge0)
    all_goals decide
section
variable {w : Int → Int → Int}
theorem Bd_Z7 (hw : ∀ a j : Int, -2147483648 ≤ w a j ∧ w a j ≤ 2147483647) : Bd (Z7 w) := fun a j => by
  by_cases c1 : a = 233 ∧ j = 186
  · rw [c1.1, c1.2, show Z7 w 233 186 = 60 from up_eq]; exact ⟨by decide, by decide⟩
  by_cases c2 : a = 25 ∧ j = 13
  · rw [c2.1, c2.2, show Z7 w 25 13 = 60 from (up_ne (by omega)).trans up_eq]; exact ⟨by decide, by decide⟩
  rw [show Z7 w a j = ZZ w a j from (up_ne (by omega)).trans (up_ne (by omega))]
  unfold ZZ
  by_cases c3 : 0 ≤ a
  · rw [if_pos c3]; exact ⟨bd_l0 a j, bd_h0 a j⟩
  · rw [if_neg c3]
    cases a with
    | negSucc x => exact hw _ _
    | ofNat x => exact absurd (Int.ofNat_nonneg x) c3
theorem Bd_ZF (hw : ∀ a j : Int, -2147483648 ≤ w a j ∧ w a j ≤ 2147483647) : Bd (ZF w) :=
  Bd_up (Bd_up (Bd_up (Bd_up (Bd_begS (Bd_Z7 hw)) (show (-1 : Int) ≤ -1 by omega) (show (-1 : Int) ≤ 24 by omega)) (show (-1 : Int) ≤ -1 by omega) (show (-1 : Int) ≤ 24 by omega)) (show (-1 : Int) ≤ -1 by omega) (show (-1 : Int) ≤ 24 by omega)) (show (-1 : Int) ≤ -1 by omega) (show (-1 : Int) ≤ 24 by omega)
theorem zf_b {a j : Int} (h : ¬ (a = 243 ∧ 0 ≤ j ∧ j < 4)) : ZF w a j = begS (Z7 w) a j := by
  unfold ZF
  rw [up_ne (by omega), up_ne (by omega), up_ne (by omega), up_ne (by omega)]
theorem z7_0 {a j : Int} (ha : 0 ≤ a) (h1 : ¬ (a = 25 ∧ j = 13)) (h2 : ¬ (a = 233 ∧ j = 186)) : Z7 w a j = 0 := by
  unfold Z7 Z6 ZZ
  rw [up_ne (by omega), up_ne (by omega), if_pos ha]
theorem zf_0 {a j : Int} (ha : 0 ≤ a) (h1 : ¬ (a = 25 ∧ j = 13)) (h2 : ¬ (a = 233 ∧ j = 186)) (h3 : ¬ (a = 243 ∧ 0 ≤ j ∧ j < 4)) (h4 : a ≠ 235) : ZF w a j = 0 := by
  rw [zf_b h3]
  unfold begS
  by_cases c1 : a = 232 ∧ j = 11
  · rw [c1.1, c1.2, up_eq]
  rw [up_ne c1]
  by_cases c2 : a = 239 ∧ j = 1
  · rw [c2.1, c2.2, up_eq]
  rw [up_ne c2]
  by_cases c3 : a = 239 ∧ j = 0
  · rw [c3.1, c3.2, up_eq]
  rw [up_ne c3]
  by_cases c4 : a = 232 ∧ j = 5
  · rw [c4.1, c4.2, up_eq]
  rw [up_ne c4, mtM_o (by omega)]
  by_cases c5 : a = 236
  · rw [c5]
    by_cases c6 : 0 ≤ j ∧ j < 12
    · unfold bg0
      rw [fl_i c6]
      show (if j < 7 then mx_shl 1 (Z7 w 233 (22 + j)) - 1 else 0) = 0
      by_cases c7 : j < 7
      · rw [if_pos c7, z7_0 (by omega) (by omega) (by omega)]; rfl
      · rw [if_neg c7]
    · unfold bg0 fl
      rw [if_neg (fun q => c6 q.2), z7_0 (by omega) (by omega) (by omega)]
  · rw [bg0_o c5, z7_0 ha h1 h2]
theorem zf_25 : ZF w 25 13 = 60 := by rw [zf_b (by omega), begS_o (by omega)]; exact (up_ne (by omega)).trans up_eq
theorem zf_233 : ZF w 233 186 = 60 := by rw [zf_b (by omega), begS_o (by omega)]; exact up_eq
theorem zf_243 {s : Int} (h : 0 ≤ s ∧ s < 4) : ZF w 243 s = -1 := by
  unfold ZF
  rcases (show s = 0 ∨ s = 1 ∨ s = 2 ∨ s = 3 by omega) with e | e | e | e <;> rw [e]
  · rw [up_ne (by omega), up_ne (by omega), up_ne (by omega), up_eq]
  · rw [up_ne (by omega), up_ne (by omega), up_eq]
  · rw [up_ne (by omega), up_eq]
  · rw [up_eq]
theorem zf_m {j : Int} : ZF w (-2) j = w (-2) j := by
  rw [zf_b (by omega), begS_o (by omega)]
  unfold Z7 Z6 ZZ
  rw [up_ne (by omega), up_ne (by omega), if_neg (by omega)]
theorem IV_ZF : IV (ZF w) (ZF w) := by
  have z : ∀ a j : Int, 0 ≤ a → ¬ (a = 25 ∧ j = 13) → ¬ (a = 233 ∧ j = 186) → ¬ (a = 243 ∧ 0 ≤ j ∧ j < 4) → a ≠ 235 → ZF w a j = 0 := fun a j h1 h2 h3 h4 h5 => zf_0 h1 h2 h3 h4 h5
  have e0 : ZF w 233 0 = 0 := z 233 0 (by omega) (by omega) (by omega) (by omega) (by omega)
  have e85 : ZF w 233 85 = 0 := z 233 85 (by omega) (by omega) (by omega) (by omega) (by omega)
  have e113 : ZF w 233 113 = 0 := z 233 113 (by omega) (by omega) (by omega) (by omega) (by omega)
  have e5 : ZF w 232 5 = 0 := z 232 5 (by omega) (by omega) (by omega) (by omega) (by omega)
  have e11 : ZF w 232 11 = 0 := z 232 11 (by omega) (by omega) (by omega) (by omega) (by omega)
  have zz : ∀ a j b k : Int, (0 ≤ a ∧ a < 233 ∧ ¬ a = 25 ∨ a = 25 ∧ ¬ j = 13) → (0 ≤ b ∧ b < 243 ∧ ¬ b = 25 ∧ ¬ b = 233 ∧ ¬ b = 235 ∨ b = 233 ∧ ¬ k = 186) → ZF w a j = ZF w b k := fun a j b k h1 h2 => by rw [z a j (by omega) (by omega) (by omega) (by omega) (by omega), z b k (by omega) (by omega) (by omega) (by omega) (by omega)]
  refine ⟨⟨zz _ _ _ _ (by omega) (by omega), fun j => zz _ _ _ _ (by omega) (by omega)⟩, ⟨⟨⟨zz _ _ _ _ (by omega) (by omega), zz _ _ _ _ (by omega) (by omega), zz _ _ _ _ (by omega) (by omega), by rw [zf_25, zf_233]⟩, fun f f0 f1 => by omega, fun f f0 f1 => by omega, fun f f0 f1 => by omega⟩, fun g g0 g1 => by omega, fun f f0 f1 => z _ _ (by omega) (by omega) (by omega) (by omega) (by omega), fun f f0 f1 => by omega⟩, ⟨fun a b a0 a1 => by omega, fun a b c a0 a1 => by omega, fun a b a0 a1 => by omega⟩, ?_, ⟨zz _ _ _ _ (by omega) (by omega), fun k k0 k1 => by omega⟩, fun k k0 k1 => ⟨zz _ _ _ _ (by omega) (by omega), fun q => absurd (z _ _ (by omega) (by omega) (by omega) (by omega) (by omega)) q⟩, ⟨zz _ _ _ _ (by omega) (by omega), fun s s0 s1 => by omega⟩, fun s s0 s1 => Or.inl ⟨z _ _ (by omega) (by omega) (by omega) (by omega) (by omega), zf_243 ⟨s0, s1⟩⟩⟩
  unfold NWr
  rw [e0]
  exact ⟨fun f f0 f1 => by omega, fun f _ f0 f1 => z _ _ (by omega) (by omega) (by omega) (by omega) (by omega), ⟨zz _ _ _ _ (by omega) (by omega), zz _ _ _ _ (by omega) (by omega), zz _ _ _ _ (by omega) (by omega), zz _ _ _ _ (by omega) (by omega), zz _ _ _ _ (by omega) (by omega)⟩, Or.inr ⟨rfl, z _ _ (by omega) (by omega) (by omega) (by omega) (by omega)⟩⟩
theorem g_call2 {d M pc pc' n : Nat} {z : Int} {Q : mx_Q} {ls : mx_L} {st r : List mx_V} {sh : List (Nat × Nat)} {RF S S2 : Int → Int → Int} {ai : Instr} {y kk d0 bc bs : Nat} {as : List mx_V} (e : mx_kd M pc = (ai, n, z)) (hcal : mx_cal ai = some (y, kk)) (hy : Nat.blt y 194 = true) (hc : mx_call d0 y as (sh, RF, S, bc, bs) (fun v m' => ∃ S', m' = mx_mm S' ∧ v = none ∧ S' = S2)) (hd : d0 ≤ d) (hst : st = as.reverse ++ r) (hlen : as.length = mq_na y) (hcat : (r.map mx_cat).sum ≤ 8) (hrecv : ∃ a t, as = .inr (.inr a) :: t ∧ mx_shp (sh, RF, S, bc, bs) a = (mq_kc y, 0)) (hpc : pc + 3 = pc') (K : GR d M Q pc' ls r (mx_mm S2)) : GR d M Q pc ls st (sh, RF, S, bc, bs) := by
  subst hpc
  refine mx_R_fold (Or.inr (Or.inl ⟨y, kk, as, r, _, bc, bs, ?_, hst, hlen.trans (mq_ok hy).1.symm, hcat, ?_, Nat.le_refl _, Nat.le_refl _, mx_call_le hd hc, fun v m' h1 _ => ?_⟩))
  · show mx_cal (mx_kd M pc).1 = _
    rw [e]; exact hcal
  · rw [(mq_ok hy).2.2.2]; exact fun _ _ => hrecv
  · obtain ⟨S', rfl, rfl, rfl⟩ := h1
    show mx_R _ _ _ (pc + 3, ls, r, mx_sb (mx_mm S') (bc - bc) (bs - bs))
    rw [Nat.sub_self, Nat.sub_self]
    exact K
theorem law_run {d : Nat} (hd : 10 ≤ d) (hw : ∀ a j : Int, -2147483648 ≤ w a j ∧ w a j ≤ 2147483647) (hn : 0 ≤ w (-2) (-1)) : GR d 0 (fun v m => ∃ S', m = mx_mm S' ∧ v = some (.inl 1)) 0 [some (.inr (.inr (-2))), none, none, none] [] ([], Rf0, ZZ w, 249, 3047) := by
  refine g_new (pc' := 3) (k := 0) (sh' := SHk 1) rfl rfl (by decide +kernel) rfl (zr_Z (by decide)) rfl rfl (by decide +kernel) ?_
  refine g_dup (pc' := 4) rfl rfl ?_
  refine g_call (pc' := 7) (sh' := SHk 232) (RF' := Rf14) (S' := Z6 w) (as := [.inr (.inr ((0 : Nat) : Int))]) rfl rfl rfl k_X10_init (by omega) rfl rfl (by decide) ⟨_, _, rfl, shp_k (by decide +kernel)⟩ (by decide) rfl rfl rfl ?_
  refine g_astore (pc' := 8) (ls' := [some (.inr (.inr (-2))), some (.inr (.inr 0)), none, none]) rfl rfl rfl rfl ?_
  refine g_new (pc' := 11) (k := 232) (sh' := SHk 233) rfl rfl (by decide +kernel) (SHk_l (by decide)) (zr_6 (by decide)) rfl rfl (by decide +kernel) ?_
  refine g_dup (pc' := 12) rfl rfl ?_
  refine g_call2 (pc' := 15) (S2 := ZF w) (as := [.inr (.inr ((232 : Nat) : Int))]) rfl rfl rfl (k_X11_init (Bd_Z7 hw)) (by omega) rfl rfl (by decide) ⟨_, _, rfl, shp_k (by decide +kernel)⟩ rfl ?_
  refine g_astore (pc' := 16) (ls' := [some (.inr (.inr (-2))), some (.inr (.inr 0)), some (.inr (.inr 232)), none]) rfl rfl rfl rfl ?_
  refine g_const (pc' := 17) rfl rfl ?_
  refine g_istore (pc' := 18) (ls' := LL 0) rfl rfl rfl rfl ?_
  have h2 := (hw (-2) (-1)).2
  exact law_loop (Q := fun v _ => v = some (.inl 1)) (n := w (-2) (-1)) hd ⟨hn, by omega⟩ (fun _ => rfl) (0, ZF w) ⟨⟨Int.le_refl _, hn⟩, ⟨Bd_ZF hw, IV_ZF⟩, zf_m⟩
end
