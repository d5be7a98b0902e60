/-! WHILE CELLS ARE MADE -/
def GR (d M : Nat) (Q : mx_Q) (pc : Nat) (ls : mx_L) (st : List mx_V) (m : mx_M) : Prop := mx_R (mx_call d) M Q (pc, ls, st, m)
theorem GR.beg {d y : Nat} {as : List mx_V} {m : mx_M} {Q : mx_Q} {ls : mx_L} (h1 : Nat.blt y 194 = true) (h0 : Nat.beq y 0 = false) (h3 : as.length = mq_na y) (h4 : Nat.ble (mx_lo as).length (mq_ml y) = true) (h5 : mx_lo as ++ List.replicate (mq_ml y - (mx_lo as).length) none = ls) (h : GR d y Q 0 ls [] m) : mx_call (d + 1) y as m Q := by
  obtain ⟨m1, m2, m3, m4⟩ := mq_ok h1
  have hlt : y < 194 := Nat.le_of_ble_eq_true h1
  have g := show (Nat.blt y mx_nm.length && !Nat.beq y 0) = true from by rw [mx_nm_len, h1, h0]; rfl
  unfold mx_call
  rw [if_neg (by omega), if_neg (by omega)]
  obtain ⟨g1, g2⟩ := Bool.and_eq_true_iff.mp g
  refine ⟨Nat.le_of_ble_eq_true g1, fun q => ?_, h3.trans m1.symm, by rw [m2]; exact Nat.le_of_ble_eq_true h4, ?_⟩
  · subst q; cases g2
  · rw [show mx_ini y as = ls by unfold mx_ini; rw [m2]; exact h5]; exact h
theorem shp_nat {sh : List (Nat × Nat)} {RF S : Int → Int → Int} {c s a : Nat} : mx_shp (sh, RF, S, c, s) (a : Int) = sh.getD a (99, 0) := rfl
theorem getD_end {sh t : List (Nat × Nat)} {x : Nat × Nat} {k : Nat} (h : sh.length = k) : (sh ++ x :: t).getD k (99, 0) = x := by
  subst h
  rw [List.getD_eq_getElem?_getD, List.getElem?_append_right (Nat.le_refl _), Nat.sub_self]
  rfl
theorem getD_app {sh x : List (Nat × Nat)} {v : Nat × Nat} {a : Nat} (h : sh.getD a (99, 0) = v) (hv : v ≠ (99, 0)) : (sh ++ x).getD a (99, 0) = v := by
  by_cases c : a < sh.length
  · rw [← h, List.getD_eq_getElem?_getD, List.getElem?_append_left c, ← List.getD_eq_getElem?_getD]
  · rw [List.getD_eq_getElem?_getD, List.getElem?_eq_none (by omega)] at h
    exact absurd h.symm hv
section
variable {d M pc pc' n : Nat} {z : Int} {Q : mx_Q} {ls ls' : mx_L} {st r : List mx_V} {m m' : mx_M} {a b v i : Int} {sh sh' : List (Nat × Nat)} {RF RF' S S' : Int → Int → Int} {c c' s s' k : Nat}
theorem g_nx {ai : Instr} {h : Nat} {op : Option Prop} {st' : List mx_V} (e : mx_kd M pc = (ai, n, z)) (hn : mx_nx ai n z h (pc, ls, st, m) = (op, (pc', ls', st', m'))) (hp : op.getD True) (K : GR d M Q pc' ls' st' m') : GR d M Q pc ls st m := by
  refine mx_R_fold (Or.inl ⟨h, ?_, ?_⟩)
  · show (mx_nx (mx_kd M pc).1 (mx_kd M pc).2.1 (mx_kd M pc).2.2 h (pc, ls, st, m)).1.getD True
    rw [e, hn]; exact hp
  · show mx_R _ _ _ (mx_nx (mx_kd M pc).1 (mx_kd M pc).2.1 (mx_kd M pc).2.2 h (pc, ls, st, m)).2
    rw [e, hn]; exact K
theorem g_const (e : mx_kd M pc = (.iconst v, n, z)) (hpc : pc + n = pc') (K : GR d M Q pc' ls (.inl v :: st) m) : GR d M Q pc ls st m := g_nx (h := 0) (op := none) e (by subst hpc; rfl) trivial K
theorem g_iload {k : Nat} (e : mx_kd M pc = (.iload k, n, z)) (hpc : pc + n = pc') (hv : ls.getD k none = some (.inl v)) (K : GR d M Q pc' ls (.inl v :: st) m) : GR d M Q pc ls st m := g_nx (h := 0) (op := none) e (by subst hpc; simp only [mx_nx, hv]; rfl) trivial K
theorem g_aload {k : Nat} (e : mx_kd M pc = (.aload k, n, z)) (hpc : pc + n = pc') (hv : ls.getD k none = some (.inr (.inr v))) (K : GR d M Q pc' ls (.inr (.inr v) :: st) m) : GR d M Q pc ls st m := g_nx (h := 0) (op := none) e (by subst hpc; simp only [mx_nx, hv]; rfl) trivial K
theorem g_istore {k : Nat} (e : mx_kd M pc = (.istore k, n, z)) (hpc : pc + n = pc') (hg : (!mx_lg ls k && Nat.blt k ls.length) = true) (hl : ls.set k (some (.inl v)) = ls') (K : GR d M Q pc' ls' st m) : GR d M Q pc ls (.inl v :: st) m := g_nx (h := 0) (op := none) e (by subst hpc; subst hl; simp only [mx_nx, hg]; rfl) trivial K
theorem g_astore {k : Nat} (e : mx_kd M pc = (.astore k, n, z)) (hpc : pc + n = pc') (hg : (!mx_lg ls k && Nat.blt k ls.length) = true) (hl : ls.set k (some (.inr (.inr v))) = ls') (K : GR d M Q pc' ls' st m) : GR d M Q pc ls (.inr (.inr v) :: st) m := g_nx (h := 0) (op := none) e (by subst hpc; subst hl; simp only [mx_nx, hg]; rfl) trivial K
theorem g_iinc {k : Nat} {c : Int} (e : mx_kd M pc = (.iinc k c, n, z)) (hpc : pc + n = pc') (hv : ls.getD k none = some (.inl v)) (hg : (!mx_lg ls k && Nat.blt k ls.length) = true) (hl : ls.set k (some (.inl (v + c))) = ls') (K : GR d M Q pc' ls' st m) : GR d M Q pc ls st m := g_nx (h := 0) (op := none) e (by subst hpc; subst hl; simp only [mx_nx, hv, hg]; rfl) trivial K
theorem g_dup (e : mx_kd M pc = (.dup, n, z)) (hpc : pc + n = pc') (K : GR d M Q pc' ls (.inr (.inr a) :: .inr (.inr a) :: st) m) : GR d M Q pc ls (.inr (.inr a) :: st) m := g_nx (h := 0) (op := none) e (by subst hpc; rfl) trivial K
theorem g_goto {t : Int} (e : mx_kd M pc = (.goto t, n, z)) (hpc : t.toNat = pc') (K : GR d M Q pc' ls st m) : GR d M Q pc ls st m := g_nx (h := 0) (op := none) e (by subst hpc; rfl) trivial K
theorem g_ge1 {t : Int} (e : mx_kd M pc = (.if_icmp .ge t, n, z)) (hpc : t.toNat = pc') (hr : (-2147483648 ≤ a ∧ a < 2147483648) ∧ -2147483648 ≤ b ∧ b < 2147483648) (h : b ≤ a) (K : GR d M Q pc' ls st m) : GR d M Q pc ls (.inl b :: .inl a :: st) m := g_nx (h := 1) (op := some _) e (by subst hpc; rfl) (And.intro hr h) K
theorem g_ge0 {t : Int} (e : mx_kd M pc = (.if_icmp .ge t, n, z)) (hpc : pc + n = pc') (hr : (-2147483648 ≤ a ∧ a < 2147483648) ∧ -2147483648 ≤ b ∧ b < 2147483648) (h : a < b) (K : GR d M Q pc' ls st m) : GR d M Q pc ls (.inl b :: .inl a :: st) m := g_nx (h := 0) (op := some _) e (by subst hpc; rfl) (And.intro hr h) K
theorem g_obj (e : mx_kd M pc = (.invokedynamic 9, n, z)) (hpc : pc + n = pc') (hp : 0 ≤ a ∧ (st.map mx_cat).sum ≤ 8) (K : GR d M Q pc' ls st m) : GR d M Q pc ls (.inr (.inr a) :: st) m := g_nx (h := 0) (op := some _) e (by subst hpc; rfl) hp K
theorem g_putr {q : Nat} (e : mx_kd M pc = (.putstatic q, n, z)) (hpc : pc + n = pc') (hf : mx_fty q = 2) (hs : mx_shp (sh, RF, S, c, s) a = (q / 256, 0)) (hv : 0 ≤ v) (K : GR d M Q pc' ls st (sh, mx_up RF a z v, S, c, s)) : GR d M Q pc ls (.inr (.inr v) :: .inr (.inr a) :: st) (sh, RF, S, c, s) :=
  g_nx (h := 0) (op := some (mx_shp (sh, RF, S, c, s) a = (q / 256, 0) ∧ 0 ≤ v)) e (by subst hpc; simp only [mx_nx, hf]) ⟨hs, hv⟩ K
theorem g_getr {q : Nat} (e : mx_kd M pc = (.getfield q, n, z)) (hpc : pc + n = pc') (hf : mx_fty q = 2) (hs : mx_shp (sh, RF, S, c, s) a = (q / 256, 0)) (hv : RF a z = v) (K : GR d M Q pc' ls (.inr (.inr v) :: st) (sh, RF, S, c, s)) : GR d M Q pc ls (.inr (.inr a) :: st) (sh, RF, S, c, s) := by
  subst hv
  exact g_nx (h := 0) (op := some (mx_shp (sh, RF, S, c, s) a = (q / 256, 0))) e (by subst hpc; simp only [mx_nx, hf]; rfl) hs K
theorem g_puti {q : Nat} (e : mx_kd M pc = (.putfield q, n, z)) (hpc : pc + n = pc') (hf : mx_fty q = 0) (hs : mx_shp (sh, RF, S, c, s) a = (q / 256, 0)) (K : GR d M Q pc' ls st (sh, RF, mx_up S a z v, c, s)) : GR d M Q pc ls (.inl v :: .inr (.inr a) :: st) (sh, RF, S, c, s) :=
  g_nx (h := 0) (op := some (mx_shp (sh, RF, S, c, s) a = (q / 256, 0))) e (by subst hpc; simp only [mx_nx, hf]) hs K
theorem g_iast (h : Nat) (e : mx_kd M pc = (.iastore, n, z)) (hpc : pc + n = pc') (hs : mx_shp (sh, RF, S, c, s) a = (100, h)) (hi : 0 ≤ i ∧ i < (h : Int)) (K : GR d M Q pc' ls st (sh, RF, mx_up S a i v, c, s)) : GR d M Q pc ls (.inl v :: .inl i :: .inr (.inr a) :: st) (sh, RF, S, c, s) :=
  g_nx (h := h) (op := some (mx_shp (sh, RF, S, c, s) a = (100, h) ∧ 0 ≤ i ∧ i < (h : Int))) e (by subst hpc; rfl) ⟨hs, hi⟩ K
theorem g_aast (h : Nat) (e : mx_kd M pc = (.aastore, n, z)) (hpc : pc + n = pc') (hg : (Nat.ble 103 (h / 1000) && Nat.ble (h / 1000) 104) = true) (hs : mx_shp (sh, RF, S, c, s) a = (h / 1000, h % 1000)) (hi : 0 ≤ i ∧ i < ((h % 1000 : Nat) : Int)) (hv : mx_shp (sh, RF, S, c, s) v = (mx_elk (h / 1000), 0)) (K : GR d M Q pc' ls st (sh, mx_up RF a i v, S, c, s)) : GR d M Q pc ls (.inr (.inr v) :: .inl i :: .inr (.inr a) :: st) (sh, RF, S, c, s) :=
  g_nx (h := h) (op := some ((mx_shp (sh, RF, S, c, s) a = (h / 1000, h % 1000) ∧ 0 ≤ i ∧ i < ((h % 1000 : Nat) : Int)) ∧ mx_shp (sh, RF, S, c, s) v = (mx_elk (h / 1000), 0))) e (by subst hpc; simp only [mx_nx, hg]; rfl) ⟨⟨hs, hi⟩, hv⟩ K
theorem g_new {q : Nat} (e : mx_kd M pc = (.new q, n, z)) (hpc : pc + n = pc') (hb : (Nat.ble 1 c && (Nat.ble (mx_nf q) s && Nat.blt q 10)) = true) (hl : sh.length = k) (hz : mx_zr S k 0 = S') (hc : c - 1 = c') (hs : s - mx_nf q = s') (hsh : sh ++ [(q, 0)] = sh') (K : GR d M Q pc' ls (.inr (.inr (k : Int)) :: st) (sh', mx_zr RF k (-1), S', c', s')) : GR d M Q pc ls st (sh, RF, S, c, s) := by
  subst hpc; subst hl; subst hz; subst hc; subst hs; subst hsh
  exact g_nx (h := 0) (op := none) (pc' := pc + n) e (by simp only [mx_nx, hb]; rfl) trivial K
theorem g_newi {j : Nat} (e : mx_kd M pc = (.newarray .int, n, z)) (hpc : pc + n = pc') (hb : (Nat.ble 1 c && (Nat.ble j s && Nat.ble j 1000)) = true) (hl : sh.length = k) (hz : mx_zr S k 0 = S') (hc : c - 1 = c') (hs : s - j = s') (hsh : sh ++ [(100, j)] = sh') (K : GR d M Q pc' ls (.inr (.inr (k : Int)) :: st) (sh', mx_zr RF k (-1), S', c', s')) : GR d M Q pc ls (.inl (.ofNat j) :: st) (sh, RF, S, c, s) := by
  subst hpc; subst hl; subst hz; subst hc; subst hs; subst hsh
  exact g_nx (h := 0) (op := none) (pc' := pc + n) e (by simp only [mx_nx, hb]; rfl) trivial K
theorem g_newb {j : Nat} (e : mx_kd M pc = (.newarray .boolean, n, z)) (hpc : pc + n = pc') (hb : (Nat.ble 1 c && (Nat.ble j s && Nat.ble j 1000)) = true) (hl : sh.length = k) (hz : mx_zr S k 0 = S') (hc : c - 1 = c') (hs : s - j = s') (hsh : sh ++ [(101, j)] = sh') (K : GR d M Q pc' ls (.inr (.inr (k : Int)) :: st) (sh', mx_zr RF k (-1), S', c', s')) : GR d M Q pc ls (.inl (.ofNat j) :: st) (sh, RF, S, c, s) := by
  subst hpc; subst hl; subst hz; subst hc; subst hs; subst hsh
  exact g_nx (h := 0) (op := none) (pc' := pc + n) e (by simp only [mx_nx, hb]; rfl) trivial K
theorem g_anew {j q : Nat} (e : mx_kd M pc = (.anewarray q, n, z)) (hpc : pc + n = pc') (hb : (Nat.ble 1 c && (Nat.ble j s && (Nat.ble j 999 && (Nat.ble 103 q && Nat.ble q 104)))) = true) (hl : sh.length = k) (hz : mx_zr S k 0 = S') (hc : c - 1 = c') (hs : s - j = s') (hsh : sh ++ [(q, j)] = sh') (K : GR d M Q pc' ls (.inr (.inr (k : Int)) :: st) (sh', mx_zr RF k (-1), S', c', s')) : GR d M Q pc ls (.inl (.ofNat j) :: st) (sh, RF, S, c, s) := by
  subst hpc; subst hl; subst hz; subst hc; subst hs; subst hsh
  exact g_nx (h := 0) (op := none) (pc' := pc + n) e (by simp only [mx_nx, hb]; rfl) trivial K
/-- the references of rows made at once -/
def mx_mr (RF : Int → Int → Int) (k y : Nat) : Int → Int → Int := fun b j => if b = (k : Int) ∧ 0 ≤ j ∧ j < (y : Int) then b + 1 + j else mx_zr RF k (-1) b j
theorem g_multi {j y q q' : Nat} (e : mx_kd M pc = (.multianewarray q q', n, z)) (hpc : pc + n = pc') (hb : (Nat.ble (1 + y) c && (Nat.ble (y + y * j) s && (Nat.ble j 999 && Nat.ble y 999))) = true) (hl : sh.length = k) (hz : mx_zr S k 0 = S') (hc : c - (1 + y) = c') (hs : s - (y + y * j) = s') (hsh : sh ++ ((102, y) :: List.replicate y (100, j)) = sh') (K : GR d M Q pc' ls (.inr (.inr (k : Int)) :: st) (sh', mx_mr RF k y, S', c', s')) : GR d M Q pc ls (.inl (.ofNat j) :: .inl (.ofNat y) :: st) (sh, RF, S, c, s) := by
  subst hpc; subst hl; subst hz; subst hc; subst hs; subst hsh
  exact g_nx (h := 0) (op := none) (pc' := pc + n) e (by simp only [mx_nx, hb]; rfl) trivial K
theorem g_ret (e : mx_kd M pc = (.return_, n, z)) (hM : Nat.blt M 194 = true) (hr : mq_rt M = 0) (h : Q none m) : GR d M Q pc ls [] m := by
  refine mx_R_fold (Or.inr (Or.inr (Or.inl ?_)))
  show mx_end M (mx_kd M pc).1 [] m Q
  rw [e]
  exact ⟨rfl, by rw [(mq_ok hM).2.2.1, hr]; rfl, h⟩
theorem g_call {ai : Instr} {y kk d0 bc bs : Nat} {as : List mx_V} (e : mx_kd M pc = (ai, n, z)) (hcal : mx_cal ai = some (y, kk)) (hy : Nat.blt y 194 = true) (hc : mx_call d0 y as (sh, RF, S, bc, bs) (fun v m' => v = none ∧ m' = (sh', RF', S', 0, 0))) (hd : d0 ≤ d) (hst : st = as.reverse ++ r) (hlen : as.length = mq_na y) (hcat : (r.map mx_cat).sum ≤ 8) (hrecv : ∃ a t, as = .inr (.inr a) :: t ∧ mx_shp (sh, RF, S, c, s) a = (mq_kc y, 0)) (hb : bc ≤ c ∧ bs ≤ s) (hpc : pc + 3 = pc') (hc' : c - bc = c') (hs' : s - bs = s') (K : GR d M Q pc' ls r (sh', RF', S', c', s')) : GR d M Q pc ls st (sh, RF, S, c, s) := by
  subst hpc; subst hc'; subst hs'
  refine mx_R_fold (Or.inr (Or.inl ⟨y, kk, as, r, _, bc, bs, ?_, hst, hlen.trans (mq_ok hy).1.symm, hcat, ?_, hb.1, hb.2, mx_call_le hd hc, fun v m' h1 _ => ?_⟩))
  · show mx_cal (mx_kd M pc).1 = _
    rw [e]; exact hcal
  · rw [(mq_ok hy).2.2.2]; exact fun _ _ => hrecv
  · obtain ⟨rfl, rfl⟩ := h1
    exact K
theorem g_eqv (h : mx_eqv m m') (K : GR d M Q pc ls st m') : GR d M Q pc ls st m := mx_R_fold (Or.inr (Or.inr (Or.inr ⟨ls, m', rfl, fun _ _ q => q, h, K⟩)))
end
