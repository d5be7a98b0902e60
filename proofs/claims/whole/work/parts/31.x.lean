/-! WAYS -/
def u2 (W : Int → Int → Int) (a b v : Int) : Int → Int → Int := fun x y => if x = a ∧ y = b then v else W x y
def mtC (S : rS) (W : Int → Int → Int) : rS := fun x j => if 52 ≤ x ∧ x < 59 then W (x - 52) j else S x j
def mtM (S : rS) (W : Int → Int → Int) : rS := fun x j => if x = 235 ∧ 0 ≤ j ∧ j < 49 then W (j / 7) (j % 7) else S x j
def wC (S : rS) : Int → Int → Int := fun x y => S (52 + x) y
def wM (S : rS) : Int → Int → Int := fun x y => S 235 (7 * x + y)
theorem mtC_0 (S : rS) : S = mtC S (wC S) := by
  funext x j; unfold mtC wC
  split
  · rw [show 52 + (x - 52) = x by omega]
  · rfl
theorem mtM_0 (S : rS) : S = mtM S (wM S) := by
  funext x j; unfold mtM wM
  split
  · rename_i h; rw [show 7 * (j / 7) + j % 7 = j by omega, h.1]
  · rfl
theorem mtC_r {S : rS} {W : Int → Int → Int} {a b : Int} (h : 0 ≤ a ∧ a < 7) : mtC S W (52 + a) b = W a b := by
  unfold mtC; rw [if_pos (by omega), show 52 + a - 52 = a by omega]
theorem mtC_o {S : rS} {W : Int → Int → Int} {x j : Int} (h : ¬ (52 ≤ x ∧ x < 59)) : mtC S W x j = S x j := if_neg h
theorem mtC_u {S : rS} {W : Int → Int → Int} {a b v : Int} (h : 0 ≤ a ∧ a < 7) : mx_up (mtC S W) (52 + a) b v = mtC S (u2 W a b v) := by
  funext x j; unfold mx_up mtC u2
  by_cases h1 : x = 52 + a ∧ j = b
  · rw [if_pos h1, if_pos (by omega), if_pos (by omega)]
  · rw [if_neg h1]
    by_cases h2 : 52 ≤ x ∧ x < 59
    · rw [if_pos h2, if_pos h2, if_neg (by omega)]
    · rw [if_neg h2, if_neg h2]
theorem mtM_r {S : rS} {W : Int → Int → Int} {a b i : Int} (h : 0 ≤ a ∧ a < 7) (h2 : 0 ≤ b ∧ b < 7) (hi : i = 7 * a + b) : mtM S W 235 i = W a b := by
  subst hi
  unfold mtM; rw [if_pos (by omega), show (7 * a + b) / 7 = a by omega, show (7 * a + b) % 7 = b by omega]
theorem mtM_o {S : rS} {W : Int → Int → Int} {x j : Int} (h : ¬ x = 235) : mtM S W x j = S x j := if_neg (fun q => h q.1)
theorem mtM_u {S : rS} {W : Int → Int → Int} {a b i v : Int} (h : 0 ≤ a ∧ a < 7) (h2 : 0 ≤ b ∧ b < 7) (hi : i = 7 * a + b) : mx_up (mtM S W) 235 i v = mtM S (u2 W a b v) := by
  subst hi
  funext x j; unfold mx_up mtM u2
  by_cases h1 : x = 235 ∧ j = 7 * a + b
  · rw [if_pos h1, if_pos (by omega), if_pos (by omega)]
  · rw [if_neg h1]
    by_cases h3 : x = 235 ∧ 0 ≤ j ∧ j < 49
    · rw [if_pos h3, if_pos h3, if_neg (by omega)]
    · rw [if_neg h3, if_neg h3]
/-- the places ahead of (a, b) are as N tells -/
def pr (n a b : Int) (N W : Int → Int → Int) : Int → Int → Int := fun x y => if (0 ≤ x ∧ 0 ≤ y ∧ y < n) ∧ (x < a ∨ x = a ∧ y < b) then N x y else W x y
theorem pr_0 (n : Int) (N W : Int → Int → Int) : W = pr n 0 0 N W := by
  funext x y; unfold pr; rw [if_neg (by omega)]
theorem pr_s {n a b v : Int} {N W : Int → Int → Int} (ha : 0 ≤ a) (hb : 0 ≤ b ∧ b < n) (hv : v = N a b) : u2 (pr n a b N W) a b v = pr n a (b + 1) N W := by
  subst hv
  funext x y; unfold u2 pr
  by_cases h1 : x = a ∧ y = b
  · rw [if_pos h1, if_pos (by omega), h1.1, h1.2]
  · rw [if_neg h1]
    by_cases h2 : (0 ≤ x ∧ 0 ≤ y ∧ y < n) ∧ (x < a ∨ x = a ∧ y < b)
    · rw [if_pos h2, if_pos (by omega)]
    · rw [if_neg h2, if_neg (by omega)]
theorem pr_r {n a b : Int} {N W : Int → Int → Int} (ha : 0 ≤ a) (hb : n ≤ b) : pr n a b N W = pr n (a + 1) 0 N W := by
  funext x y; unfold pr
  by_cases h2 : (0 ≤ x ∧ 0 ≤ y ∧ y < n) ∧ (x < a ∨ x = a ∧ y < b)
  · rw [if_pos h2, if_pos (by omega)]
  · rw [if_neg h2, if_neg (by omega)]
theorem pr_k {k v : Int} {N W : Int → Int → Int} (hk : 0 ≤ k ∧ k < 49) (hv : v = N (k / 7) (k % 7)) : u2 (pr 7 (k / 7) (k % 7) N W) (k / 7) (k % 7) v = pr 7 ((k + 1) / 7) ((k + 1) % 7) N W := by
  rw [pr_s (by omega) (by omega) hv]
  by_cases h : k % 7 = 6
  · rw [pr_r (by omega) (by omega), show (k + 1) / 7 = k / 7 + 1 by omega, show (k + 1) % 7 = 0 by omega]
  · rw [show (k + 1) / 7 = k / 7 by omega, show (k + 1) % 7 = k % 7 + 1 by omega]
theorem pr_n {n a b x y : Int} {N W : Int → Int → Int} (h : ¬ (x < a ∨ x = a ∧ y < b)) : pr n a b N W x y = W x y := if_neg (fun q => h q.2)
def IW : Int → Int → Int := fun x y => if x = y then 0 else 1000000
def gts (f t m : Int → Int) : Int → (Int → Int → Int) → Int → Int → Int := fun k W => u2 (u2 W (f k) (t k) (mx_min (W (f k) (t k)) (m k))) (t k) (f k) (mx_min (W (f k) (t k)) (m k))
def SW (o : Int) (W : Int → Int → Int) : Int → Int → Int := fun x y => mx_min (W x y) (W x o + W o y)
def FWk (n : Int) (W : Int → Int → Int) (o : Int) : Int → Int → Int := fo (fun o W => pr n n 0 (SW o W) W) W o.toNat
def bnd (W : Int → Int → Int) : Prop := ∀ x y, 0 ≤ x → x < 7 → 0 ≤ W x y ∧ W x y ≤ 1000000
def wok (n : Int) (W : Int → Int → Int) : Prop := bnd W ∧ ∀ x, 0 ≤ x → x < n → W x x = 0
theorem mx_min_c (a b : Int) : mx_min a b = mx_min b a := by
  have q := mx_min_b a b
  have q2 := mx_min_b b a
  omega
theorem bnd_wC {S : rS} (hB : Bd S) : bnd (wC S) := fun x y h0 h1 => bdr_52 hB ⟨h0, h1⟩ y
theorem bnd_wM {S : rS} (hB : Bd S) : bnd (wM S) := fun x y _ _ => hB 235 (7 * x + y)
theorem bnd_pr {n a b : Int} {N W : Int → Int → Int} (h : bnd W) (hN : ∀ x y, 0 ≤ x → x < 7 → 0 ≤ y → y < n → 0 ≤ N x y ∧ N x y ≤ 1000000) : bnd (pr n a b N W) := by
  intro x y h0 h1; unfold pr
  split
  · rename_i q; exact hN x y h0 h1 q.1.2.1 q.1.2.2
  · exact h x y h0 h1
theorem IW_b (x y : Int) : 0 ≤ IW x y ∧ IW x y ≤ 1000000 := by unfold IW; split <;> omega
theorem bnd_SW {n o : Int} {W : Int → Int → Int} (h : bnd W) (ho : 0 ≤ o ∧ o < 7) (x y : Int) (h0 : 0 ≤ x) (h1 : x < 7) : 0 ≤ SW o W x y ∧ SW o W x y ≤ 1000000 := by
  have q1 := h x y h0 h1
  have q2 := h x o h0 h1
  have q3 := h o y ho.1 ho.2
  have q4 := mx_min_b (W x y) (W x o + W o y)
  unfold SW
  omega
theorem Bd_mtC {S : rS} {W : Int → Int → Int} (hB : Bd S) (h : bnd W) : Bd (mtC S W) := by
  intro x j; unfold mtC
  by_cases h1 : 52 ≤ x ∧ x < 59
  · rw [if_pos h1]
    have b := bdl_52 (i := x - 52) (j := j) (by omega)
    rw [show 52 + (x - 52) = x by omega] at b
    rw [b.1, b.2]
    exact h (x - 52) j (by omega) (by omega)
  · rw [if_neg h1]; exact hB x j
theorem Bd_mtM {S : rS} {W : Int → Int → Int} (hB : Bd S) (h : bnd W) : Bd (mtM S W) := by
  intro x j; unfold mtM
  by_cases h1 : x = 235 ∧ 0 ≤ j ∧ j < 49
  · rw [if_pos h1, h1.1]
    exact h (j / 7) (j % 7) (by omega) (by omega)
  · rw [if_neg h1]; exact hB x j
theorem u2_c (W : Int → Int → Int) (a b v x y : Int) : (u2 W a b v x y = v ∧ x = a ∧ y = b) ∨ u2 W a b v x y = W x y := by
  unfold u2
  by_cases h : x = a ∧ y = b
  · exact Or.inl ⟨if_pos h, h⟩
  · exact Or.inr (if_neg h)
theorem wok_g {n : Int} {f t m : Int → Int} {W : Int → Int → Int} (hn : n ≤ 7) (hW : wok n W) (hm : ∀ k, 0 ≤ m k) (hf : ∀ k, 0 ≤ f k ∧ f k < 7) (ht : ∀ k, 0 ≤ t k ∧ t k < 7) (N : Nat) : wok n (fo (gts f t m) W N) := by
  refine fo_ind (f := gts f t m) (a := W) (fun _ z => wok n z) hW (N := N) (fun k z _ _ hz => ?_) N (Nat.le_refl _)
  have q := mx_min_b (z (f k) (t k)) (m k)
  have q0 := hz.1 (f k) (t k) (hf k).1 (hf k).2
  have qm := hm k
  have c := fun x y => u2_c (u2 z (f k) (t k) (mx_min (z (f k) (t k)) (m k))) (t k) (f k) (mx_min (z (f k) (t k)) (m k)) x y
  have c2 := fun x y => u2_c z (f k) (t k) (mx_min (z (f k) (t k)) (m k)) x y
  refine ⟨fun x y h0 h1 => ?_, fun x h0 h1 => ?_⟩
  · have hz1 := hz.1 x y h0 h1
    show 0 ≤ u2 (u2 z (f k) (t k) (mx_min (z (f k) (t k)) (m k))) (t k) (f k) (mx_min (z (f k) (t k)) (m k)) x y ∧ u2 (u2 z (f k) (t k) (mx_min (z (f k) (t k)) (m k))) (t k) (f k) (mx_min (z (f k) (t k)) (m k)) x y ≤ 1000000
    rcases c x y with e | e
    · rw [e.1]; omega
    · rw [e]
      rcases c2 x y with e | e
      · rw [e.1]; omega
      · rw [e]; exact hz1
  · have e0 := hz.2 x h0 h1
    show u2 (u2 z (f k) (t k) (mx_min (z (f k) (t k)) (m k))) (t k) (f k) (mx_min (z (f k) (t k)) (m k)) x x = 0
    rcases c x x with e | e
    · rw [e.1]
      rw [← e.2.1, ← e.2.2] at q ⊢
      omega
    · rw [e]
      rcases c2 x x with e | e
      · rw [e.1]
        rw [← e.2.1, ← e.2.2] at q ⊢
        omega
      · rw [e]; exact e0
theorem wok_F {n : Int} {W : Int → Int → Int} (hn : n ≤ 7) (hW : wok n W) (N : Nat) (hN : (N : Int) ≤ 7) : wok n (fo (fun o W => pr n n 0 (SW o W) W) W N) := by
  refine fo_ind (f := fun o W => pr n n 0 (SW o W) W) (a := W) (fun _ z => wok n z) hW (N := N) (fun k z k0 k1 hz => ⟨bnd_pr hz.1 (fun x y h0 h1 _ _ => bnd_SW (n := n) hz.1 (by omega) x y h0 h1), fun x h0 h1 => ?_⟩) N (Nat.le_refl _)
  unfold pr
  split
  · have e := hz.2 x h0 h1
    have q := mx_min_b (z x x) (z x k + z k x)
    have q1 := hz.1 x k h0 (by omega)
    have q2 := hz.1 k x k0 (by omega)
    unfold SW
    omega
  · exact hz.2 x h0 h1
/-- a place's new number does not rest on which of its row are new -/
theorem pr_row {n a b o x : Int} {W : Int → Int → Int} (hW : wok n W) (hn : n ≤ 7) (ho : 0 ≤ o ∧ o < n) (hx : 0 ≤ x ∧ x < n) : pr n a b (SW o W) W x o = W x o ∧ pr n a b (SW o W) W o x = W o x := by
  have e := hW.2 o ho.1 ho.2
  have q1 := mx_min_b (W x o) (W x o + W o o)
  have q2 := mx_min_b (W o x) (W o o + W o x)
  unfold pr SW
  constructor
  · split
    · omega
    · rfl
  · split
    · omega
    · rfl
theorem fl_C {S : rS} {n a b o : Int} {W : Int → Int → Int} (hW : wok n W) (hn : n ≤ 7) (ho : 0 ≤ o ∧ o < n) (ha : 0 ≤ a ∧ a < n) (hb : 0 ≤ b ∧ b < n) : mx_up (mtC S (pr n a b (SW o W) W)) (52 + a) b (mx_min (mtC S (pr n a b (SW o W) W) (52 + a) b) (mtC S (pr n a b (SW o W) W) (52 + a) o + mtC S (pr n a b (SW o W) W) (52 + o) b)) = mtC S (pr n a (b + 1) (SW o W) W) := by
  rw [mtC_u (by omega), mtC_r (by omega), mtC_r (by omega), mtC_r (by omega), pr_n (by omega), (pr_row hW hn ho ha).1, (pr_row hW hn ho hb).2]
  exact congrArg (mtC S) (pr_s ha.1 hb rfl)
theorem fl_M {S : rS} {k o : Int} {W : Int → Int → Int} (hW : wok 7 W) (ho : 0 ≤ o ∧ o < 7) (hk : 0 ≤ k ∧ k < 49) : mx_up (mtM S (pr 7 (k / 7) (k % 7) (SW o W) W)) 235 k (mx_min (mtM S (pr 7 (k / 7) (k % 7) (SW o W) W) 235 (k / 7 * 7 + o) + mtM S (pr 7 (k / 7) (k % 7) (SW o W) W) 235 (7 * o + k % 7)) (mtM S (pr 7 (k / 7) (k % 7) (SW o W) W) 235 k)) = mtM S (pr 7 ((k + 1) / 7) ((k + 1) % 7) (SW o W) W) := by
  rw [mtM_u (a := k / 7) (b := k % 7) (by omega) (by omega) (by omega), mtM_r (a := k / 7) (b := o) (by omega) ho (by omega), mtM_r (a := o) (b := k % 7) ho (by omega) (by omega), mtM_r (a := k / 7) (b := k % 7) (by omega) (by omega) (by omega), pr_n (x := k / 7) (y := k % 7) (by omega), (pr_row hW (by omega) ho (by omega)).1, (pr_row hW (by omega) ho (by omega)).2, mx_min_c]
  exact congrArg (mtM S) (pr_k hk rfl)
noncomputable def wC1 (S : rS) : Int → Int → Int := pr (S 25 0) (S 25 0) 0 IW (wC S)
noncomputable def wC2 (S : rS) (g : Int) : Int → Int → Int := fo (gts (S 38) (S 39) (S 40)) (wC1 S) g.toNat
noncomputable def meas (S : rS) : rS := mtC S (FWk (S 25 0) (wC2 S (S 25 6)) (S 25 0))
theorem wok_C1 {S : rS} (hB : Bd S) : wok (S 25 0) (wC1 S) := by
  refine ⟨bnd_pr (bnd_wC hB) (fun x y _ _ _ _ => IW_b x y), fun x h0 h1 => ?_⟩
  unfold wC1 pr IW
  rw [if_pos (by omega), if_pos rfl]
theorem wok_C2 {S : rS} (hB : Bd S) (g : Int) : wok (S 25 0) (wC2 S g) := by
  have b : 0 ≤ S 25 0 ∧ S 25 0 ≤ 7 := hB 25 0
  exact wok_g b.2 (wok_C1 hB) (fun k => (hB 40 k).1) (fun k => by have q : 0 ≤ S 38 k ∧ S 38 k ≤ 6 := hB 38 k; omega) (fun k => by have q : 0 ≤ S 39 k ∧ S 39 k ≤ 6 := hB 39 k; omega) _
theorem wok_C3 {S : rS} (hB : Bd S) {o : Int} (ho : 0 ≤ o ∧ o ≤ 7) : wok (S 25 0) (FWk (S 25 0) (wC2 S (S 25 6)) o) := by
  have b : 0 ≤ S 25 0 ∧ S 25 0 ≤ 7 := hB 25 0
  exact wok_F b.2 (wok_C2 hB _) _ (by omega)
theorem Bd_meas {S : rS} (hB : Bd S) : Bd (meas S) := Bd_mtC hB (wok_C3 hB (by have b : 0 ≤ S 25 0 ∧ S 25 0 ≤ 7 := hB 25 0; omega)).1
theorem meas_o {S : rS} {x j : Int} (h : ¬ (52 ≤ x ∧ x < 59)) : meas S x j = S x j := mtC_o h
theorem FWk_s {n o : Int} {W : Int → Int → Int} (ho : 0 ≤ o) : FWk n W (o + 1) = pr n n 0 (SW o (FWk n W o)) (FWk n W o) := fo_s ho
theorem c_X3_measure {S : rS} (hB : Bd S) : CS 1 149 [.inr (.inr 25)] S (fun r' S' => r' = none ∧ S' = meas S) := by
  refine RS.beg (ls := [some (.inr (.inr 25)), none, none, none]) rfl rfl rfl rfl rfl ?_
  have b0 : 0 ≤ S 25 0 ∧ S 25 0 ≤ 7 := hB 25 0
  have b0 : 0 ≤ S 25 6 ∧ S 25 6 ≤ 9 := hB 25 6
  have b70 : 0 ≤ S 25 0 ∧ S 25 0 ≤ 7 := hB 25 0
  refine r_const (pc' := 1) rfl rfl ?_
  refine r_istore (pc' := 2) (ls' := [some (.inr (.inr 25)), some (.inl 0), none, none]) rfl rfl rfl rfl ?_
  refine r_mem (show S = mtC S (pr (S 25 0) (0 : Int) 0 IW (wC S)) from by rw [← pr_0]; exact mtC_0 S) ?_
  refine r_while (α := Int) (fun z' => [some (.inr (.inr 25)), some (.inl z'), none, none]) (fun z' => mtC S (pr (S 25 0) z' 0 IW (wC S))) (fun z' => (0 ≤ z' ∧ z' ≤ S 25 0)) (fun z' => (S 25 0 - z').toNat) ?_ 0 (show (0 ≤ (0 : Int) ∧ (0 : Int) ≤ S 25 0) from by omega)
  rintro a hI' ih2
  have hI' : (0 ≤ a ∧ a ≤ S 25 0) := hI'
  have i1 := hI'
  show RS _ _ _ _ [some (.inr (.inr 25)), some (.inl a), none, none] [] (mtC S (pr (S 25 0) a 0 IW (wC S)))
  have b1 : 0 ≤ S 25 0 ∧ S 25 0 ≤ 7 := hB 25 0
  refine r_iload (pc' := 3) rfl rfl rfl ?_
  refine r_aload (pc' := 4) rfl rfl rfl ?_
  refine r_getv (pc' := 7) (v := (S 25 0)) rfl rfl (Or.inl rfl) rfl (mtC_o (by omega)) ?_
  by_cases h2 : a < (S 25 0)
  · refine r_icmp_ge0 (pc' := 10) rfl rfl (by omega) (by omega) ?_
    refine r_const (pc' := 11) rfl rfl ?_
    refine r_istore (pc' := 12) (ls' := [some (.inr (.inr 25)), some (.inl a), some (.inl 0), none]) rfl rfl rfl rfl ?_
    refine r_mem (show (mtC S (pr (S 25 0) a 0 IW (wC S))) = mtC S (pr (S 25 0) a (0 : Int) IW (wC S)) from by rfl) ?_
    refine r_while (α := Int) (fun z' => [some (.inr (.inr 25)), some (.inl a), some (.inl z'), none]) (fun z' => mtC S (pr (S 25 0) a z' IW (wC S))) (fun z' => (0 ≤ z' ∧ z' ≤ S 25 0)) (fun z' => (S 25 0 - z').toNat) ?_ 0 (show (0 ≤ (0 : Int) ∧ (0 : Int) ≤ S 25 0) from by omega)
    rintro b hI' ih12
    have hI' : (0 ≤ b ∧ b ≤ S 25 0) := hI'
    have i2 := hI'
    show RS _ _ _ _ [some (.inr (.inr 25)), some (.inl a), some (.inl b), none] [] (mtC S (pr (S 25 0) a b IW (wC S)))
    refine r_iload (pc' := 13) rfl rfl rfl ?_
    refine r_aload (pc' := 14) rfl rfl rfl ?_
    refine r_getv (pc' := 17) (v := (S 25 0)) rfl rfl (Or.inl rfl) rfl (mtC_o (by omega)) ?_
    by_cases h3 : b < (S 25 0)
    · refine r_icmp_ge0 (pc' := 20) rfl rfl (by omega) (by omega) ?_
      refine r_aload (pc' := 21) rfl rfl rfl ?_
      refine r_getr (pc' := 24) (v := 51) rfl rfl rfl rfl rfl ?_
      refine r_iload (pc' := 25) rfl rfl rfl ?_
      refine r_aald (pc' := 26) (v := (52 + a)) 102007 rfl rfl rfl rfl (by omega) rfl ?_
      refine r_iload (pc' := 27) rfl rfl rfl ?_
      refine r_iload (pc' := 28) rfl rfl rfl ?_
      refine r_iload (pc' := 29) rfl rfl rfl ?_
      by_cases h4 : a = b
      · refine r_icmp_ne0 (pc' := 32) rfl rfl (by omega) (by omega) ?_
        refine r_const (pc' := 33) rfl rfl ?_
        refine r_goto (pc' := 38) rfl rfl ?_
        refine r_ast (pc' := 39) 7 rfl rfl (shr_52 (by omega)) (by omega) ?_
        refine r_iinc (pc' := 42) (ls' := [some (.inr (.inr 25)), some (.inl a), some (.inl (b + 1)), none]) rfl rfl rfl rfl rfl ?_
        refine r_goto (pc' := 12) rfl rfl ?_
        refine r_mem (show mx_up (mtC S (pr (S 25 0) a b IW (wC S))) (52 + a) b 0 = mtC S (pr (S 25 0) a (b + 1) IW (wC S)) from by rw [mtC_u (by omega)]; exact congrArg (mtC S) (pr_s (by omega) (by omega) (by unfold IW; rw [if_pos (by omega)]))) ?_
        exact ih12 (b + 1) (show (0 ≤ (b + 1) ∧ (b + 1) ≤ S 25 0) from by omega) (show (S 25 0 - (b + 1)).toNat < (S 25 0 - b).toNat from by omega)
      · refine r_icmp_ne1 (pc' := 36) rfl rfl (by omega) (by omega) ?_
        refine r_const (pc' := 38) rfl rfl ?_
        refine r_ast (pc' := 39) 7 rfl rfl (shr_52 (by omega)) (by omega) ?_
        refine r_iinc (pc' := 42) (ls' := [some (.inr (.inr 25)), some (.inl a), some (.inl (b + 1)), none]) rfl rfl rfl rfl rfl ?_
        refine r_goto (pc' := 12) rfl rfl ?_
        refine r_mem (show mx_up (mtC S (pr (S 25 0) a b IW (wC S))) (52 + a) b 1000000 = mtC S (pr (S 25 0) a (b + 1) IW (wC S)) from by rw [mtC_u (by omega)]; exact congrArg (mtC S) (pr_s (by omega) (by omega) (by unfold IW; rw [if_neg (by omega)]))) ?_
        exact ih12 (b + 1) (show (0 ≤ (b + 1) ∧ (b + 1) ≤ S 25 0) from by omega) (show (S 25 0 - (b + 1)).toNat < (S 25 0 - b).toNat from by omega)
    · refine r_icmp_ge1 (pc' := 45) rfl rfl (by omega) (by omega) ?_
      refine r_iinc (pc' := 48) (ls' := [some (.inr (.inr 25)), some (.inl (a + 1)), some (.inl b), none]) rfl rfl rfl rfl rfl ?_
      refine r_goto (pc' := 2) rfl rfl ?_
      refine r_forget [true, true, false, true] rfl ?_
      refine r_mem (show (mtC S (pr (S 25 0) a b IW (wC S))) = mtC S (pr (S 25 0) (a + 1) 0 IW (wC S)) from by exact congrArg (mtC S) (pr_r (by omega) (by omega))) ?_
      exact ih2 (a + 1) (show (0 ≤ (a + 1) ∧ (a + 1) ≤ S 25 0) from by omega) (show (S 25 0 - (a + 1)).toNat < (S 25 0 - a).toNat from by omega)
  · refine r_icmp_ge1 (pc' := 51) rfl rfl (by omega) (by omega) ?_
    refine r_const (pc' := 52) rfl rfl ?_
    refine r_istore (pc' := 53) (ls' := [some (.inr (.inr 25)), some (.inl 0), none, none]) rfl rfl rfl rfl ?_
    refine r_mem (show (mtC S (pr (S 25 0) a 0 IW (wC S))) = mtC S (wC2 S (0 : Int)) from by show mtC S (pr (S 25 0) a 0 IW (wC S)) = mtC S (pr (S 25 0) (S 25 0) 0 IW (wC S)); rw [show a = S 25 0 by omega]) ?_
    refine r_while (α := Int) (fun z' => [some (.inr (.inr 25)), some (.inl z'), none, none]) (fun z' => mtC S (wC2 S z')) (fun z' => (0 ≤ z' ∧ z' ≤ S 25 6)) (fun z' => (S 25 6 - z').toNat) ?_ 0 (show (0 ≤ (0 : Int) ∧ (0 : Int) ≤ S 25 6) from by omega)
    rintro g hI' ih53
    have hI' : (0 ≤ g ∧ g ≤ S 25 6) := hI'
    have i3 := hI'
    show RS _ _ _ _ [some (.inr (.inr 25)), some (.inl g), none, none] [] (mtC S (wC2 S g))
    have b5 : 0 ≤ S 25 6 ∧ S 25 6 ≤ 9 := hB 25 6
    have hB6 : Bd (mtC S (wC2 S g)) := by exact Bd_mtC hB (wok_C2 hB g).1
    refine r_iload (pc' := 54) rfl rfl rfl ?_
    refine r_aload (pc' := 55) rfl rfl rfl ?_
    refine r_getv (pc' := 58) (v := (S 25 6)) rfl rfl (Or.inl rfl) rfl (mtC_o (by omega)) ?_
    by_cases h7 : g < (S 25 6)
    · refine r_icmp_ge0 (pc' := 61) rfl rfl (by omega) (by omega) ?_
      refine r_aload (pc' := 62) rfl rfl rfl ?_
      refine r_getr (pc' := 65) (v := 38) rfl rfl rfl rfl rfl ?_
      refine r_iload (pc' := 66) rfl rfl rfl ?_
      refine r_aldv (pc' := 67) (v := (S 38 g)) 9 rfl rfl rfl (by omega) (mtC_o (by omega)) ?_
      have b8 : 0 ≤ S 38 g ∧ S 38 g ≤ 6 := hB 38 g
      refine r_istore (pc' := 68) (ls' := [some (.inr (.inr 25)), some (.inl g), some (.inl (S 38 g)), none]) rfl rfl rfl rfl ?_
      refine r_aload (pc' := 69) rfl rfl rfl ?_
      refine r_getr (pc' := 72) (v := 39) rfl rfl rfl rfl rfl ?_
      refine r_iload (pc' := 73) rfl rfl rfl ?_
      refine r_aldv (pc' := 74) (v := (S 39 g)) 9 rfl rfl rfl (by omega) (mtC_o (by omega)) ?_
      have b9 : 0 ≤ S 39 g ∧ S 39 g ≤ 6 := hB 39 g
      refine r_istore (pc' := 75) (ls' := [some (.inr (.inr 25)), some (.inl g), some (.inl (S 38 g)), some (.inl (S 39 g))]) rfl rfl rfl rfl ?_
      refine r_aload (pc' := 76) rfl rfl rfl ?_
      refine r_getr (pc' := 79) (v := 51) rfl rfl rfl rfl rfl ?_
      refine r_iload (pc' := 80) rfl rfl rfl ?_
      refine r_aald (pc' := 81) (v := (52 + (S 38 g))) 102007 rfl rfl rfl rfl (by omega) rfl ?_
      refine r_iload (pc' := 82) rfl rfl rfl ?_
      refine r_aload (pc' := 83) rfl rfl rfl ?_
      refine r_getr (pc' := 86) (v := 51) rfl rfl rfl rfl rfl ?_
      refine r_iload (pc' := 87) rfl rfl rfl ?_
      refine r_aald (pc' := 88) (v := (52 + (S 38 g))) 102007 rfl rfl rfl rfl (by omega) rfl ?_
      refine r_iload (pc' := 89) rfl rfl rfl ?_
      refine r_aldv (pc' := 90) (v := ((mtC S (wC2 S g)) (52 + (S 38 g)) (S 39 g))) 7 rfl rfl (shr_52 (by omega)) (by omega) rfl ?_
      refine r_aload (pc' := 91) rfl rfl rfl ?_
      refine r_getr (pc' := 94) (v := 40) rfl rfl rfl rfl rfl ?_
      refine r_iload (pc' := 95) rfl rfl rfl ?_
      refine r_aldv (pc' := 96) (v := (S 40 g)) 9 rfl rfl rfl (by omega) (mtC_o (by omega)) ?_
      have b10 : 0 ≤ S 40 g ∧ S 40 g ≤ 30 := hB 40 g
      have r0 : 0 ≤ (mtC S (wC2 S g)) (52 + (S 38 g)) (S 39 g) ∧ (mtC S (wC2 S g)) (52 + (S 38 g)) (S 39 g) ≤ 1000000 := bdr_52 hB6 (by omega) (S 39 g)
      refine r_min (pc' := 99) rfl rfl ⟨by omega, Nat.le_of_ble_eq_true rfl⟩ ?_
      have b11 := mx_min_b ((mtC S (wC2 S g)) (52 + (S 38 g)) (S 39 g)) (S 40 g)
      refine r_ast (pc' := 100) 7 rfl rfl (shr_52 (by omega)) (by omega) ?_
      refine r_aload (pc' := 101) rfl rfl rfl ?_
      refine r_getr (pc' := 104) (v := 51) rfl rfl rfl rfl rfl ?_
      refine r_iload (pc' := 105) rfl rfl rfl ?_
      refine r_aald (pc' := 106) (v := (52 + (S 39 g))) 102007 rfl rfl rfl rfl (by omega) rfl ?_
      refine r_iload (pc' := 107) rfl rfl rfl ?_
      refine r_aload (pc' := 108) rfl rfl rfl ?_
      refine r_getr (pc' := 111) (v := 51) rfl rfl rfl rfl rfl ?_
      refine r_iload (pc' := 112) rfl rfl rfl ?_
      refine r_aald (pc' := 113) (v := (52 + (S 38 g))) 102007 rfl rfl rfl rfl (by omega) rfl ?_
      refine r_iload (pc' := 114) rfl rfl rfl ?_
      refine r_aldv (pc' := 115) (v := (mx_min ((mtC S (wC2 S g)) (52 + (S 38 g)) (S 39 g)) (S 40 g))) 7 rfl rfl (shr_52 (by omega)) (by omega) (by first | rfl | exact up_eq) ?_
      refine r_ast (pc' := 116) 7 rfl rfl (shr_52 (by omega)) (by omega) ?_
      refine r_iinc (pc' := 119) (ls' := [some (.inr (.inr 25)), some (.inl (g + 1)), some (.inl (S 38 g)), some (.inl (S 39 g))]) rfl rfl rfl rfl rfl ?_
      refine r_goto (pc' := 53) rfl rfl ?_
      refine r_forget [true, true, false, false] rfl ?_
      refine r_mem (show mx_up (mx_up (mtC S (wC2 S g)) (52 + (S 38 g)) (S 39 g) (mx_min ((mtC S (wC2 S g)) (52 + (S 38 g)) (S 39 g)) (S 40 g))) (52 + (S 39 g)) (S 38 g) (mx_min ((mtC S (wC2 S g)) (52 + (S 38 g)) (S 39 g)) (S 40 g)) = mtC S (wC2 S (g + 1)) from by rw [mtC_u (by omega), mtC_u (by omega), mtC_r (by omega)]; exact congrArg (mtC S) (fo_s (f := gts (S 38) (S 39) (S 40)) (a := wC1 S) (by omega)).symm) ?_
      exact ih53 (g + 1) (show (0 ≤ (g + 1) ∧ (g + 1) ≤ S 25 6) from by omega) (show (S 25 6 - (g + 1)).toNat < (S 25 6 - g).toNat from by omega)
    · refine r_icmp_ge1 (pc' := 122) rfl rfl (by omega) (by omega) ?_
      refine r_const (pc' := 123) rfl rfl ?_
      refine r_istore (pc' := 124) (ls' := [some (.inr (.inr 25)), some (.inl 0), none, none]) rfl rfl rfl rfl ?_
      refine r_mem (show (mtC S (wC2 S g)) = mtC S (FWk (S 25 0) (wC2 S (S 25 6)) (0 : Int)) from by show mtC S (wC2 S g) = mtC S (wC2 S (S 25 6)); rw [show g = S 25 6 by omega]) ?_
      refine r_while (α := Int) (fun z' => [some (.inr (.inr 25)), some (.inl z'), none, none]) (fun z' => mtC S (FWk (S 25 0) (wC2 S (S 25 6)) z')) (fun z' => (0 ≤ z' ∧ z' ≤ S 25 0)) (fun z' => (S 25 0 - z').toNat) ?_ 0 (show (0 ≤ (0 : Int) ∧ (0 : Int) ≤ S 25 0) from by omega)
      rintro o hI' ih124
      have hI' : (0 ≤ o ∧ o ≤ S 25 0) := hI'
      have i4 := hI'
      show RS _ _ _ _ [some (.inr (.inr 25)), some (.inl o), none, none] [] (mtC S (FWk (S 25 0) (wC2 S (S 25 6)) o))
      have hB12 : Bd (mtC S (FWk (S 25 0) (wC2 S (S 25 6)) o)) := by exact Bd_mtC hB (wok_C3 hB (by omega)).1
      refine r_iload (pc' := 125) rfl rfl rfl ?_
      refine r_aload (pc' := 126) rfl rfl rfl ?_
      refine r_getv (pc' := 129) (v := (S 25 0)) rfl rfl (Or.inl rfl) rfl (mtC_o (by omega)) ?_
      by_cases h13 : o < (S 25 0)
      · refine r_icmp_ge0 (pc' := 132) rfl rfl (by omega) (by omega) ?_
        refine r_const (pc' := 133) rfl rfl ?_
        refine r_istore (pc' := 134) (ls' := [some (.inr (.inr 25)), some (.inl o), some (.inl 0), none]) rfl rfl rfl rfl ?_
        refine r_mem (show (mtC S (FWk (S 25 0) (wC2 S (S 25 6)) o)) = mtC S (pr (S 25 0) (0 : Int) 0 (SW o (FWk (S 25 0) (wC2 S (S 25 6)) o)) (FWk (S 25 0) (wC2 S (S 25 6)) o)) from by rw [← pr_0]) ?_
        refine r_while (α := Int) (fun z' => [some (.inr (.inr 25)), some (.inl o), some (.inl z'), none]) (fun z' => mtC S (pr (S 25 0) z' 0 (SW o (FWk (S 25 0) (wC2 S (S 25 6)) o)) (FWk (S 25 0) (wC2 S (S 25 6)) o))) (fun z' => (0 ≤ z' ∧ z' ≤ S 25 0)) (fun z' => (S 25 0 - z').toNat) ?_ 0 (show (0 ≤ (0 : Int) ∧ (0 : Int) ≤ S 25 0) from by omega)
        rintro c hI' ih134
        have hI' : (0 ≤ c ∧ c ≤ S 25 0) := hI'
        have i5 := hI'
        show RS _ _ _ _ [some (.inr (.inr 25)), some (.inl o), some (.inl c), none] [] (mtC S (pr (S 25 0) c 0 (SW o (FWk (S 25 0) (wC2 S (S 25 6)) o)) (FWk (S 25 0) (wC2 S (S 25 6)) o)))
        refine r_iload (pc' := 135) rfl rfl rfl ?_
        refine r_aload (pc' := 136) rfl rfl rfl ?_
        refine r_getv (pc' := 139) (v := (S 25 0)) rfl rfl (Or.inl rfl) rfl (mtC_o (by omega)) ?_
        by_cases h14 : c < (S 25 0)
        · refine r_icmp_ge0 (pc' := 142) rfl rfl (by omega) (by omega) ?_
          refine r_const (pc' := 143) rfl rfl ?_
          refine r_istore (pc' := 144) (ls' := [some (.inr (.inr 25)), some (.inl o), some (.inl c), some (.inl 0)]) rfl rfl rfl rfl ?_
          refine r_mem (show (mtC S (pr (S 25 0) c 0 (SW o (FWk (S 25 0) (wC2 S (S 25 6)) o)) (FWk (S 25 0) (wC2 S (S 25 6)) o))) = mtC S (pr (S 25 0) c (0 : Int) (SW o (FWk (S 25 0) (wC2 S (S 25 6)) o)) (FWk (S 25 0) (wC2 S (S 25 6)) o)) from by rfl) ?_
          refine r_while (α := Int) (fun z' => [some (.inr (.inr 25)), some (.inl o), some (.inl c), some (.inl z')]) (fun z' => mtC S (pr (S 25 0) c z' (SW o (FWk (S 25 0) (wC2 S (S 25 6)) o)) (FWk (S 25 0) (wC2 S (S 25 6)) o))) (fun z' => (0 ≤ z' ∧ z' ≤ S 25 0)) (fun z' => (S 25 0 - z').toNat) ?_ 0 (show (0 ≤ (0 : Int) ∧ (0 : Int) ≤ S 25 0) from by omega)
          rintro e hI' ih144
          have hI' : (0 ≤ e ∧ e ≤ S 25 0) := hI'
          have i6 := hI'
          show RS _ _ _ _ [some (.inr (.inr 25)), some (.inl o), some (.inl c), some (.inl e)] [] (mtC S (pr (S 25 0) c e (SW o (FWk (S 25 0) (wC2 S (S 25 6)) o)) (FWk (S 25 0) (wC2 S (S 25 6)) o)))
          have hB15 : Bd (mtC S (pr (S 25 0) c e (SW o (FWk (S 25 0) (wC2 S (S 25 6)) o)) (FWk (S 25 0) (wC2 S (S 25 6)) o))) := by exact Bd_mtC hB (bnd_pr (wok_C3 hB (by omega)).1 (fun x y h0 h1 _ _ => bnd_SW (n := S 25 0) (wok_C3 hB (by omega)).1 (by omega) x y h0 h1))
          refine r_iload (pc' := 145) rfl rfl rfl ?_
          refine r_aload (pc' := 146) rfl rfl rfl ?_
          refine r_getv (pc' := 149) (v := (S 25 0)) rfl rfl (Or.inl rfl) rfl (mtC_o (by omega)) ?_
          by_cases h16 : e < (S 25 0)
          · refine r_icmp_ge0 (pc' := 152) rfl rfl (by omega) (by omega) ?_
            have r0 : 0 ≤ (mtC S (pr (S 25 0) c e (SW o (FWk (S 25 0) (wC2 S (S 25 6)) o)) (FWk (S 25 0) (wC2 S (S 25 6)) o))) (52 + c) e ∧ (mtC S (pr (S 25 0) c e (SW o (FWk (S 25 0) (wC2 S (S 25 6)) o)) (FWk (S 25 0) (wC2 S (S 25 6)) o))) (52 + c) e ≤ 1000000 := bdr_52 hB15 (by omega) e
            have r1 : 0 ≤ (mtC S (pr (S 25 0) c e (SW o (FWk (S 25 0) (wC2 S (S 25 6)) o)) (FWk (S 25 0) (wC2 S (S 25 6)) o))) (52 + c) o ∧ (mtC S (pr (S 25 0) c e (SW o (FWk (S 25 0) (wC2 S (S 25 6)) o)) (FWk (S 25 0) (wC2 S (S 25 6)) o))) (52 + c) o ≤ 1000000 := bdr_52 hB15 (by omega) o
            have r2 : 0 ≤ (mtC S (pr (S 25 0) c e (SW o (FWk (S 25 0) (wC2 S (S 25 6)) o)) (FWk (S 25 0) (wC2 S (S 25 6)) o))) (52 + o) e ∧ (mtC S (pr (S 25 0) c e (SW o (FWk (S 25 0) (wC2 S (S 25 6)) o)) (FWk (S 25 0) (wC2 S (S 25 6)) o))) (52 + o) e ≤ 1000000 := bdr_52 hB15 (by omega) e
            refine r_aload (pc' := 153) rfl rfl rfl ?_
            refine r_getr (pc' := 156) (v := 51) rfl rfl rfl rfl rfl ?_
            refine r_iload (pc' := 157) rfl rfl rfl ?_
            refine r_aald (pc' := 158) (v := (52 + c)) 102007 rfl rfl rfl rfl (by omega) rfl ?_
            refine r_iload (pc' := 159) rfl rfl rfl ?_
            refine r_aload (pc' := 160) rfl rfl rfl ?_
            refine r_getr (pc' := 163) (v := 51) rfl rfl rfl rfl rfl ?_
            refine r_iload (pc' := 164) rfl rfl rfl ?_
            refine r_aald (pc' := 165) (v := (52 + c)) 102007 rfl rfl rfl rfl (by omega) rfl ?_
            refine r_iload (pc' := 166) rfl rfl rfl ?_
            refine r_aldv (pc' := 167) (v := ((mtC S (pr (S 25 0) c e (SW o (FWk (S 25 0) (wC2 S (S 25 6)) o)) (FWk (S 25 0) (wC2 S (S 25 6)) o))) (52 + c) e)) 7 rfl rfl (shr_52 (by omega)) (by omega) rfl ?_
            refine r_aload (pc' := 168) rfl rfl rfl ?_
            refine r_getr (pc' := 171) (v := 51) rfl rfl rfl rfl rfl ?_
            refine r_iload (pc' := 172) rfl rfl rfl ?_
            refine r_aald (pc' := 173) (v := (52 + c)) 102007 rfl rfl rfl rfl (by omega) rfl ?_
            refine r_iload (pc' := 174) rfl rfl rfl ?_
            refine r_aldv (pc' := 175) (v := ((mtC S (pr (S 25 0) c e (SW o (FWk (S 25 0) (wC2 S (S 25 6)) o)) (FWk (S 25 0) (wC2 S (S 25 6)) o))) (52 + c) o)) 7 rfl rfl (shr_52 (by omega)) (by omega) rfl ?_
            refine r_aload (pc' := 176) rfl rfl rfl ?_
            refine r_getr (pc' := 179) (v := 51) rfl rfl rfl rfl rfl ?_
            refine r_iload (pc' := 180) rfl rfl rfl ?_
            refine r_aald (pc' := 181) (v := (52 + o)) 102007 rfl rfl rfl rfl (by omega) rfl ?_
            refine r_iload (pc' := 182) rfl rfl rfl ?_
            refine r_aldv (pc' := 183) (v := ((mtC S (pr (S 25 0) c e (SW o (FWk (S 25 0) (wC2 S (S 25 6)) o)) (FWk (S 25 0) (wC2 S (S 25 6)) o))) (52 + o) e)) 7 rfl rfl (shr_52 (by omega)) (by omega) rfl ?_
            refine r_iadd (pc' := 184) rfl rfl ?_
            refine r_min (pc' := 187) rfl rfl ⟨by omega, Nat.le_of_ble_eq_true rfl⟩ ?_
            have b17 := mx_min_b ((mtC S (pr (S 25 0) c e (SW o (FWk (S 25 0) (wC2 S (S 25 6)) o)) (FWk (S 25 0) (wC2 S (S 25 6)) o))) (52 + c) e) (((mtC S (pr (S 25 0) c e (SW o (FWk (S 25 0) (wC2 S (S 25 6)) o)) (FWk (S 25 0) (wC2 S (S 25 6)) o))) (52 + c) o) + ((mtC S (pr (S 25 0) c e (SW o (FWk (S 25 0) (wC2 S (S 25 6)) o)) (FWk (S 25 0) (wC2 S (S 25 6)) o))) (52 + o) e))
            refine r_ast (pc' := 188) 7 rfl rfl (shr_52 (by omega)) (by omega) ?_
            refine r_iinc (pc' := 191) (ls' := [some (.inr (.inr 25)), some (.inl o), some (.inl c), some (.inl (e + 1))]) rfl rfl rfl rfl rfl ?_
            refine r_goto (pc' := 144) rfl rfl ?_
            refine r_mem (show mx_up (mtC S (pr (S 25 0) c e (SW o (FWk (S 25 0) (wC2 S (S 25 6)) o)) (FWk (S 25 0) (wC2 S (S 25 6)) o))) (52 + c) e (mx_min ((mtC S (pr (S 25 0) c e (SW o (FWk (S 25 0) (wC2 S (S 25 6)) o)) (FWk (S 25 0) (wC2 S (S 25 6)) o))) (52 + c) e) (((mtC S (pr (S 25 0) c e (SW o (FWk (S 25 0) (wC2 S (S 25 6)) o)) (FWk (S 25 0) (wC2 S (S 25 6)) o))) (52 + c) o) + ((mtC S (pr (S 25 0) c e (SW o (FWk (S 25 0) (wC2 S (S 25 6)) o)) (FWk (S 25 0) (wC2 S (S 25 6)) o))) (52 + o) e))) = mtC S (pr (S 25 0) c (e + 1) (SW o (FWk (S 25 0) (wC2 S (S 25 6)) o)) (FWk (S 25 0) (wC2 S (S 25 6)) o)) from by exact fl_C (wok_C3 hB (by omega)) (by omega) (by omega) (by omega) (by omega)) ?_
            exact ih144 (e + 1) (show (0 ≤ (e + 1) ∧ (e + 1) ≤ S 25 0) from by omega) (show (S 25 0 - (e + 1)).toNat < (S 25 0 - e).toNat from by omega)
          · refine r_icmp_ge1 (pc' := 194) rfl rfl (by omega) (by omega) ?_
            refine r_iinc (pc' := 197) (ls' := [some (.inr (.inr 25)), some (.inl o), some (.inl (c + 1)), some (.inl e)]) rfl rfl rfl rfl rfl ?_
            refine r_goto (pc' := 134) rfl rfl ?_
            refine r_forget [true, true, true, false] rfl ?_
            refine r_mem (show (mtC S (pr (S 25 0) c e (SW o (FWk (S 25 0) (wC2 S (S 25 6)) o)) (FWk (S 25 0) (wC2 S (S 25 6)) o))) = mtC S (pr (S 25 0) (c + 1) 0 (SW o (FWk (S 25 0) (wC2 S (S 25 6)) o)) (FWk (S 25 0) (wC2 S (S 25 6)) o)) from by exact congrArg (mtC S) (pr_r (by omega) (by omega))) ?_
            exact ih134 (c + 1) (show (0 ≤ (c + 1) ∧ (c + 1) ≤ S 25 0) from by omega) (show (S 25 0 - (c + 1)).toNat < (S 25 0 - c).toNat from by omega)
        · refine r_icmp_ge1 (pc' := 200) rfl rfl (by omega) (by omega) ?_
          refine r_iinc (pc' := 203) (ls' := [some (.inr (.inr 25)), some (.inl (o + 1)), some (.inl c), none]) rfl rfl rfl rfl rfl ?_
          refine r_goto (pc' := 124) rfl rfl ?_
          refine r_forget [true, true, false, true] rfl ?_
          refine r_mem (show (mtC S (pr (S 25 0) c 0 (SW o (FWk (S 25 0) (wC2 S (S 25 6)) o)) (FWk (S 25 0) (wC2 S (S 25 6)) o))) = mtC S (FWk (S 25 0) (wC2 S (S 25 6)) (o + 1)) from by rw [FWk_s (by omega), show c = S 25 0 by omega]) ?_
          exact ih124 (o + 1) (show (0 ≤ (o + 1) ∧ (o + 1) ≤ S 25 0) from by omega) (show (S 25 0 - (o + 1)).toNat < (S 25 0 - o).toNat from by omega)
      · refine r_icmp_ge1 (pc' := 206) rfl rfl (by omega) (by omega) ?_
        refine q_vret rfl rfl rfl ?_
        obtain rfl : S 25 0 = o := by omega
        exact ⟨rfl, rfl⟩
