/-! THE REFERENCE's TOKENS -/
theorem up_id {S : rS} {a i : Int} : S = mx_up S a i (S a i) := by
  funext x y; unfold mx_up
  by_cases h : x = a ∧ y = i
  · rw [if_pos h, h.1, h.2]
  · rw [if_neg h]
def hre (T : Int → Int) (n p : Int) : Int := if p < n then T p else -1
theorem hre_p {T : Int → Int} {n p : Int} (h : 0 ≤ hre T n p) : p < n ∧ hre T n p = T p := by
  unfold hre at h ⊢
  by_cases q : p < n
  · rw [if_pos q]; exact ⟨q, rfl⟩
  · rw [if_neg q] at h; exact absurd h (by decide)
theorem hre_lt {T : Int → Int} {n p : Int} (h : p < n) : hre T n p = T p := if_pos h
theorem hre_n {T : Int → Int} {n p : Int} (hT : ∀ i, 0 ≤ T i ∧ T i ≤ 255) (h : hre T n p < 0) : n ≤ p := by
  have q := hT p
  unfold hre at h
  by_cases z : p < n
  · rw [if_pos z] at h; omega
  · omega
theorem hre_b {T : Int → Int} {n p : Int} (hT : ∀ i, 0 ≤ T i ∧ T i ≤ 255) : -1 ≤ hre T n p ∧ hre T n p ≤ 255 := by
  have q := hT p
  unfold hre; split <;> omega
noncomputable def rtk (T : Int → Int) (n e : Int) : Int := if tkK T n e = 2 then if 2 < tkQ T n e - tkB T n e then 4 else 2 else if tkK T n e = 3 then if T (tkB T n e) = 59 then 3 else 4 else tkK T n e
def rwf (T : Int → Int) (b m : Int) : Int := fo (fun i w => if i < 7 then w * 256 + T (b + i) else -1) 0 m.toNat
def rvf (T : Int → Int) (b m : Int) : Int := fo (fun i v => if i < 2 then 10 * v + T (b + i) - 48 else v) 0 m.toNat
noncomputable def rwd (T : Int → Int) (n e : Int) : Int := if tkK T n e = 1 then rwf T (tkB T n e) (tkQ T n e - tkB T n e) else 0
noncomputable def rvl (T : Int → Int) (n e : Int) : Int := if tkK T n e = 2 then rvf T (tkB T n e) (tkQ T n e - tkB T n e) else 0
theorem rwf_b {T : Int → Int} (hT : ∀ i, 0 ≤ T i ∧ T i ≤ 255) (b m : Int) : -1 ≤ rwf T b m ∧ rwf T b m ≤ 72057594037927935 := by
  have key : ∀ n : Nat, (n ≤ 7 → 0 ≤ fo (fun i w => if i < 7 then w * 256 + T (b + i) else -1) 0 n ∧ fo (fun i w => if i < 7 then w * 256 + T (b + i) else -1) 0 n < (256 ^ n : Nat)) ∧ (7 < n → fo (fun i w => if i < 7 then w * 256 + T (b + i) else -1) 0 n = -1) := by
    intro n
    induction n with
    | zero => exact ⟨fun _ => ⟨Int.le_refl _, show (0 : Int) < ((256 ^ 0 : Nat) : Int) by decide⟩, fun h => absurd h (by omega)⟩
    | succ n ih =>
      refine ⟨fun h => ?_, fun h => ?_⟩
      · show 0 ≤ (if (n : Int) < 7 then _ else _) ∧ (if (n : Int) < 7 then _ else _) < _
        have q := hT (b + n)
        have ih := ih.1 (by omega)
        rw [if_pos (by omega), Nat.pow_succ]
        omega
      · show (if (n : Int) < 7 then _ else _) = _
        exact if_neg (by omega)
  have k := key m.toNat
  unfold rwf
  by_cases h : m.toNat ≤ 7
  · have k1 := k.1 h
    have : 256 ^ m.toNat ≤ 256 ^ 7 := Nat.pow_le_pow_right (by omega) h
    omega
  · have k2 := k.2 (by omega)
    omega
theorem rwf_s {T : Int → Int} {b q : Int} (h : b ≤ q) : rwf T b (q + 1 - b) = if q - b < 7 then rwf T b (q - b) * 256 + T q else -1 := by
  unfold rwf
  rw [show q + 1 - b = q - b + 1 by omega, fo_s (by omega), show b + (q - b) = q by omega]
theorem rvf_s {T : Int → Int} {b q : Int} (h : b ≤ q) : rvf T b (q + 1 - b) = if q - b < 2 then 10 * rvf T b (q - b) + T q - 48 else rvf T b (q - b) := by
  unfold rvf
  rw [show q + 1 - b = q - b + 1 by omega, fo_s (by omega), show b + (q - b) = q by omega]
def st5 (S : rS) (q p w v k : Int) : rS := mx_up (mx_up (mx_up (mx_up (mx_up S 232 15 q) 232 16 p) 232 18 w) 232 19 v) 232 17 k
theorem st5_15 {S : rS} {q p w v k y : Int} : mx_up (st5 S q p w v k) 232 15 y = st5 S y p w v k := by
  unfold st5
  rw [up_comm (i := 17) (j := 15) (by omega), up_comm (i := 19) (j := 15) (by omega), up_comm (i := 18) (j := 15) (by omega), up_comm (i := 16) (j := 15) (by omega), up_up]
theorem st5_18 {S : rS} {q p w v k y : Int} : mx_up (st5 S q p w v k) 232 18 y = st5 S q p y v k := by
  unfold st5
  rw [up_comm (i := 17) (j := 18) (by omega), up_comm (i := 19) (j := 18) (by omega), up_up]
theorem st5_19 {S : rS} {q p w v k y : Int} : mx_up (st5 S q p w v k) 232 19 y = st5 S q p w y k := by
  unfold st5
  rw [up_comm (i := 17) (j := 19) (by omega), up_up]
theorem st5_17 {S : rS} {q p w v k y : Int} : mx_up (st5 S q p w v k) 232 17 y = st5 S q p w v y := by
  unfold st5; rw [up_up]
noncomputable def stM (S : rS) : rS := st5 S (tkQ (S 240) (S 232 9) (S 232 15)) (tkB (S 240) (S 232 9) (S 232 15)) (rwd (S 240) (S 232 9) (S 232 15)) (rvl (S 240) (S 232 9) (S 232 15)) (rtk (S 240) (S 232 9) (S 232 15))
theorem st5_o {S : rS} {q p w v k a j : Int} (h : ¬ (a = 232 ∧ 15 ≤ j ∧ j ≤ 19)) : st5 S q p w v k a j = S a j := by
  unfold st5
  rw [up_ne (by omega), up_ne (by omega), up_ne (by omega), up_ne (by omega), up_ne (by omega)]
theorem stM_o {S : rS} {a j : Int} (h : ¬ (a = 232 ∧ 15 ≤ j ∧ j ≤ 19)) : stM S a j = S a j := st5_o h
theorem rtk_r {T : Int → Int} {n e : Int} : 0 ≤ rtk T n e ∧ rtk T n e ≤ 4 := by
  have q := tkK_r T n e
  unfold rtk; split <;> (try split) <;> (try split) <;> omega
/-- digits, one by one -/
theorem rvf_b {T : Int → Int} {b m : Int} (hT : ∀ i, b ≤ i → i < b + m → 48 ≤ T i ∧ T i ≤ 57) : 0 ≤ rvf T b m ∧ rvf T b m ≤ 99 := by
  have key : ∀ n : Nat, (n : Int) ≤ m ∨ n = 0 → (n = 0 → rvf T b n = 0) ∧ (n = 1 → 0 ≤ rvf T b n ∧ rvf T b n ≤ 9) ∧ 0 ≤ rvf T b n ∧ rvf T b n ≤ 99 := by
    intro n
    induction n with
    | zero => intro _; exact ⟨fun _ => rfl, fun h => absurd h (by omega), Int.le_refl _, show (0 : Int) ≤ 99 by omega⟩
    | succ n ih =>
      intro hn
      have ih := ih (by omega)
      have t := hT (b + n) (by omega) (by omega)
      have e : rvf T b ((n + 1 : Nat) : Int) = if (n : Int) < 2 then 10 * rvf T b n + T (b + n) - 48 else rvf T b n := rfl
      rw [e]
      by_cases h : (n : Int) < 2
      · rw [if_pos h]
        rcases (show n = 0 ∨ n = 1 by omega) with z | z
        · have := ih.1 z; omega
        · have := ih.2.1 z; omega
      · rw [if_neg h]; omega
  by_cases hm : 0 ≤ m
  · obtain ⟨n, rfl⟩ := Int.eq_ofNat_of_zero_le hm
    exact (key n (Or.inl (Int.le_refl _))).2.2
  · have e : rvf T b m = 0 := by unfold rvf; rw [show m.toNat = 0 by omega]; rfl
    rw [e]; omega
theorem srt_e {c k : Int} (h : srt c = k) : (k = 1 → 97 ≤ c ∧ c ≤ 122) ∧ (k = 2 → 48 ≤ c ∧ c ≤ 57) := by
  unfold srt at h
  by_cases h1 : 97 ≤ c ∧ c ≤ 122
  · rw [if_pos h1] at h; exact ⟨fun _ => h1, fun q => by omega⟩
  · rw [if_neg h1] at h
    by_cases h2 : 48 ≤ c ∧ c ≤ 57
    · rw [if_pos h2] at h; exact ⟨fun q => by omega, fun _ => h2⟩
    · rw [if_neg h2] at h; exact ⟨fun q => by omega, fun q => by omega⟩
theorem srt_l {c : Int} (h : 97 ≤ c ∧ c ≤ 122) : srt c = 1 := if_pos h
theorem srt_d {c : Int} (h : 48 ≤ c ∧ c ≤ 57) : srt c = 2 := by unfold srt; rw [if_neg (by omega), if_pos h]
theorem srt_x {c : Int} (h : ¬ (97 ≤ c ∧ c ≤ 122)) (h2 : ¬ (48 ≤ c ∧ c ≤ 57)) : srt c = 3 := by unfold srt; rw [if_neg h, if_neg h2]
theorem tk_in {T : Int → Int} {n e i : Int} (h : tkK T n e = 1 ∨ tkK T n e = 2) (h1 : tkB T n e ≤ i) (h2 : i < tkQ T n e) : srt (T i) = tkK T n e := by
  have hK : tkK T n e ≠ 0 ∧ tkK T n e ≠ 3 := by omega
  by_cases hb : tkB T n e < n
  · have ek : tkK T n e = srt (T (tkB T n e)) := if_pos hb
    by_cases e0 : i = tkB T n e
    · rw [e0, ek]
    · have eq : tkQ T n e = scn (fun i => srt (T i) = tkK T n e) n (tkB T n e + 1) := by unfold tkQ; rw [if_neg hK.1, if_neg hK.2]
      rw [eq] at h2
      exact scn_i (P := fun i => srt (T i) = tkK T n e) (show tkB T n e + 1 ≤ i by omega) h2
  · have : tkK T n e = 0 := if_neg hb
    omega
theorem rvl_b {T : Int → Int} (n e : Int) : 0 ≤ rvl T n e ∧ rvl T n e ≤ 99 := by
  unfold rvl
  by_cases h : tkK T n e = 2
  · rw [if_pos h]
    refine rvf_b (fun i h1 h2 => ?_)
    have := tk_in (T := T) (n := n) (e := e) (Or.inr h) h1 (by omega)
    exact (srt_e (this.trans h)).2 rfl
  · rw [if_neg h]; omega
theorem rwd_b {T : Int → Int} (hT : ∀ i, 0 ≤ T i ∧ T i ≤ 255) (n e : Int) : -1 ≤ rwd T n e ∧ rwd T n e ≤ 72057594037927935 := by
  unfold rwd
  split
  · exact rwf_b hT _ _
  · omega
theorem Bd_stM {S : rS} (hB : Bd S) : Bd (stM S) := by
  have b1 : 0 ≤ S 232 9 ∧ S 232 9 ≤ 200 := hB 232 9
  have b3 : 0 ≤ S 232 15 ∧ S 232 15 ≤ 200 := hB 232 15
  have q1 := tkB_b (S 240) (S 232 9) (S 232 15)
  have q2 := rtk_r (T := S 240) (n := S 232 9) (e := S 232 15)
  have q3 := tkQ_b (S 240) (S 232 9) (S 232 15)
  have q4 := rwd_b (T := S 240) (fun i => hB 240 i) (S 232 9) (S 232 15)
  have q5 := rvl_b (T := S 240) (S 232 9) (S 232 15)
  unfold stM st5
  exact Bd_up (Bd_up (Bd_up (Bd_up (Bd_up hB (show (0 : Int) ≤ _ by omega) (show _ ≤ (200 : Int) by omega)) (show (0 : Int) ≤ _ by omega) (show _ ≤ (200 : Int) by omega)) (show (-9223372036854775808 : Int) ≤ _ by omega) (show _ ≤ (9223372036854775807 : Int) by omega)) q5.1 q5.2) q2.1 q2.2
section
variable {S : rS} {p q wd v : Int}
theorem stM_0 (hb : p = tkB (S 240) (S 232 9) (S 232 15)) (h : S 232 9 ≤ p) : st5 S p p 0 0 0 = stM S := by
  have hk : tkK (S 240) (S 232 9) (S 232 15) = 0 := if_neg (by omega)
  unfold stM rtk rwd rvl tkQ
  rw [hk, ← hb]; rfl
theorem stM_1 (hb : p = tkB (S 240) (S 232 9) (S 232 15)) (h : p < S 232 9) (hs : srt (S 240 p) = 1) (hq : scn (fun i => srt (S 240 i) = 1) (S 232 9) p = q) (hw : wd = rwf (S 240) p (q - p)) : st5 S q p wd 0 1 = stM S := by
  have hk : tkK (S 240) (S 232 9) (S 232 15) = 1 := by unfold tkK; rw [← hb, if_pos h]; exact hs
  have hQ : tkQ (S 240) (S 232 9) (S 232 15) = q := by
    unfold tkQ
    rw [hk, if_neg (by decide), if_neg (by decide), ← hb, ← hq]
    exact (scn_t (P := fun i => srt (S 240 i) = 1) h hs).symm
  unfold stM rtk rwd rvl
  rw [hQ, hk, if_neg (show ¬ (1 : Int) = 2 by decide), if_neg (show ¬ (1 : Int) = 3 by decide), if_pos rfl, if_neg (show ¬ (1 : Int) = 2 by decide), ← hb, ← hw]
theorem stM_2 {k : Int} (hb : p = tkB (S 240) (S 232 9) (S 232 15)) (h : p < S 232 9) (hs : srt (S 240 p) = 2) (hq : scn (fun i => srt (S 240 i) = 2) (S 232 9) p = q) (hw : v = rvf (S 240) p (q - p)) (hk2 : k = if 2 < q - p then 4 else 2) : st5 S q p 0 v k = stM S := by
  have hk : tkK (S 240) (S 232 9) (S 232 15) = 2 := by unfold tkK; rw [← hb, if_pos h]; exact hs
  have hQ : tkQ (S 240) (S 232 9) (S 232 15) = q := by
    unfold tkQ
    rw [hk, if_neg (by decide), if_neg (by decide), ← hb, ← hq]
    exact (scn_t (P := fun i => srt (S 240 i) = 2) h hs).symm
  unfold stM rtk rwd rvl
  rw [hQ, hk, if_pos (show (2 : Int) = 2 from rfl), if_neg (show ¬ (2 : Int) = 1 by decide), if_pos (show (2 : Int) = 2 from rfl), ← hb, ← hw, ← hk2]
theorem stM_3 {k : Int} (hb : p = tkB (S 240) (S 232 9) (S 232 15)) (h : p < S 232 9) (hs : srt (S 240 p) = 3) (hk2 : k = if S 240 p = 59 then 3 else 4) : st5 S (p + 1) p 0 0 k = stM S := by
  have hk : tkK (S 240) (S 232 9) (S 232 15) = 3 := by unfold tkK; rw [← hb, if_pos h]; exact hs
  have hQ : tkQ (S 240) (S 232 9) (S 232 15) = p + 1 := by
    unfold tkQ
    rw [hk, if_neg (by decide), if_pos rfl, ← hb]
  unfold stM rtk rwd rvl
  rw [hQ, hk, if_neg (show ¬ (3 : Int) = 2 by decide), if_pos (show (3 : Int) = 3 from rfl), if_neg (show ¬ (3 : Int) = 1 by decide), if_neg (show ¬ (3 : Int) = 2 by decide), ← hb, ← hk2]
end
theorem c_X11_step {S : rS} (hB : Bd S) : CS 2 125 [.inr (.inr 232)] S (fun r' S' => r' = none ∧ S' = stM S) := by
  refine RS.beg (ls := [some (.inr (.inr 232)), none]) rfl rfl rfl rfl rfl ?_
  have hT : ∀ i, 0 ≤ S 240 i ∧ S 240 i ≤ 255 := fun i => hB 240 i
  have z9 : 0 ≤ S 232 9 ∧ S 232 9 ≤ 200 := hB 232 9
  have z15 : 0 ≤ S 232 15 ∧ S 232 15 ≤ 200 := hB 232 15
  refine r_mem (show S = mx_up S 232 15 (S 232 15) from by exact up_id) ?_
  refine r_while (α := Int) (fun z' => [some (.inr (.inr 232)), none]) (fun z' => mx_up S 232 15 z') (fun z' => (S 232 15 ≤ z' ∧ (z' ≤ S 232 9 ∨ z' = S 232 15)) ∧ (scn (fun kk => S 240 kk = 32) (S 232 9) z' = tkB (S 240) (S 232 9) (S 232 15))) (fun z' => (S 232 9 - z').toNat) ?_ (S 232 15) (show (S 232 15 ≤ (S 232 15) ∧ ((S 232 15) ≤ S 232 9 ∨ (S 232 15) = S 232 15)) ∧ (scn (fun kk => S 240 kk = 32) (S 232 9) (S 232 15) = tkB (S 240) (S 232 9) (S 232 15)) from by exact ⟨by omega, rfl⟩)
  rintro p hI' ih0
  have hI' : (S 232 15 ≤ p ∧ (p ≤ S 232 9 ∨ p = S 232 15)) ∧ (scn (fun kk => S 240 kk = 32) (S 232 9) p = tkB (S 240) (S 232 9) (S 232 15)) := hI'
  obtain ⟨i1, i2⟩ := hI'
  show RS _ _ _ _ [some (.inr (.inr 232)), none] [] (mx_up S 232 15 p)
  have b1 : 0 ≤ S 232 15 ∧ S 232 15 ≤ 200 := hB 232 15
  have b2 : 0 ≤ S 232 9 ∧ S 232 9 ≤ 200 := hB 232 9
  refine r_aload (pc' := 1) rfl rfl rfl ?_
  refine q_callE (pc' := 4) (w := some (.inl (hre (S 240) (S 232 9) p))) (S2 := mx_up S 232 15 p) (st' := [.inl (hre (S 240) (S 232 9) p)]) rfl rfl rfl (c_X11_here  (S := mx_up S 232 15 p) (Bd_up hB (show (0 : Int) ≤ p from by omega) (show p ≤ (200 : Int) from by omega)) ) (by decide) rfl rfl (Nat.le_of_ble_eq_true rfl) (fun _ _ => ⟨_, _, rfl, rfl⟩) rfl rfl ?_
  have b3 : -1 ≤ (hre (S 240) (S 232 9) p) ∧ (hre (S 240) (S 232 9) p) ≤ 255 := hre_b hT
  refine r_const (pc' := 6) rfl rfl ?_
  by_cases h4 : (hre (S 240) (S 232 9) p) = 32
  · refine r_icmp_ne0 (pc' := 9) rfl rfl (by omega) (by omega) ?_
    refine r_aload (pc' := 10) rfl rfl rfl ?_
    refine r_dupr (pc' := 11) rfl rfl ?_
    refine r_getv (pc' := 14) (v := p) rfl rfl (Or.inl rfl) rfl rfl ?_
    refine r_const (pc' := 15) rfl rfl ?_
    refine r_iadd (pc' := 16) rfl rfl ?_
    refine r_put (pc' := 19) rfl rfl rfl rfl ?_
    refine r_goto (pc' := 0) rfl rfl ?_
    refine r_mem (show mx_up (mx_up S 232 15 p) 232 15 (p + 1) = mx_up S 232 15 (p + 1) from by exact up_up) ?_
    exact ih0 (p + 1) (show (S 232 15 ≤ (p + 1) ∧ ((p + 1) ≤ S 232 9 ∨ (p + 1) = S 232 15)) ∧ (scn (fun kk => S 240 kk = 32) (S 232 9) (p + 1) = tkB (S 240) (S 232 9) (S 232 15)) from by have e := hre_p (T := S 240) (n := S 232 9) (p := p) (by omega); exact ⟨by omega, by rw [← i2]; exact (scn_t (P := fun kk => S 240 kk = 32) e.1 (e.2.symm.trans h4)).symm⟩) (show (S 232 9 - (p + 1)).toNat < (S 232 9 - p).toNat from by have e := hre_p (T := S 240) (n := S 232 9) (p := p) (by omega); omega)
  · refine r_icmp_ne1 (pc' := 22) rfl rfl (by omega) (by omega) ?_
    refine r_aload (pc' := 23) rfl rfl rfl ?_
    refine r_aload (pc' := 24) rfl rfl rfl ?_
    refine r_getv (pc' := 27) (v := p) rfl rfl (Or.inl rfl) rfl rfl ?_
    refine r_put (pc' := 30) rfl rfl rfl rfl ?_
    refine r_aload (pc' := 31) rfl rfl rfl ?_
    refine r_lcon (pc' := 32) rfl rfl ?_
    refine r_putl (pc' := 35) rfl rfl rfl rfl ?_
    refine r_aload (pc' := 36) rfl rfl rfl ?_
    refine r_const (pc' := 37) rfl rfl ?_
    refine r_put (pc' := 40) rfl rfl rfl rfl ?_
    refine r_aload (pc' := 41) rfl rfl rfl ?_
    refine q_callE (pc' := 44) (w := some (.inl (hre (S 240) (S 232 9) p))) (S2 := mx_up (mx_up (mx_up (mx_up S 232 15 p) 232 16 p) 232 18 0) 232 19 0) (st' := [.inl (hre (S 240) (S 232 9) p)]) rfl rfl rfl (c_X11_here  (S := mx_up (mx_up (mx_up (mx_up S 232 15 p) 232 16 p) 232 18 0) 232 19 0) (Bd_up (Bd_up (Bd_up (Bd_up hB (show (0 : Int) ≤ p from by omega) (show p ≤ (200 : Int) from by omega)) (show (0 : Int) ≤ p from by omega) (show p ≤ (200 : Int) from by omega)) (show (-9223372036854775808 : Int) ≤ 0 from by omega) (show 0 ≤ (9223372036854775807 : Int) from by omega)) (show (0 : Int) ≤ 0 from by omega) (show 0 ≤ (99 : Int) from by omega)) ) (by decide) rfl rfl (Nat.le_of_ble_eq_true rfl) (fun _ _ => ⟨_, _, rfl, rfl⟩) rfl rfl ?_
    have b5 : -1 ≤ (hre (S 240) (S 232 9) p) ∧ (hre (S 240) (S 232 9) p) ≤ 255 := hre_b hT
    refine r_istore (pc' := 45) (ls' := [some (.inr (.inr 232)), some (.inl (hre (S 240) (S 232 9) p))]) rfl rfl rfl rfl ?_
    refine r_aload (pc' := 46) rfl rfl rfl ?_
    refine r_iload (pc' := 47) rfl rfl rfl ?_
    by_cases h6 : (hre (S 240) (S 232 9) p) < 0
    · refine r_if_ge0 (pc' := 50) rfl rfl (by omega) (by omega) ?_
      refine r_const (pc' := 51) rfl rfl ?_
      refine r_goto (pc' := 101) rfl rfl ?_
      refine r_put (pc' := 104) rfl rfl rfl rfl ?_
      refine r_aload (pc' := 105) rfl rfl rfl ?_
      refine r_getv (pc' := 108) (v := 0) rfl rfl (Or.inl rfl) rfl rfl ?_
      refine r_const (pc' := 109) rfl rfl ?_
      refine r_icmp_le1 (pc' := 122) rfl rfl (by decide) (by decide) ?_
      refine r_aload (pc' := 123) rfl rfl rfl ?_
      refine r_getv (pc' := 126) (v := 0) rfl rfl (Or.inl rfl) rfl rfl ?_
      refine r_const (pc' := 127) rfl rfl ?_
      refine r_icmp_ne1 (pc' := 198) rfl rfl (by decide) (by decide) ?_
      refine r_aload (pc' := 199) rfl rfl rfl ?_
      refine r_getv (pc' := 202) (v := 0) rfl rfl (Or.inl rfl) rfl rfl ?_
      refine r_const (pc' := 203) rfl rfl ?_
      refine r_icmp_ne1 (pc' := 275) rfl rfl (by decide) (by decide) ?_
      refine r_aload (pc' := 276) rfl rfl rfl ?_
      refine r_aload (pc' := 277) rfl rfl rfl ?_
      refine r_getv (pc' := 280) (v := 0) rfl rfl (Or.inl rfl) rfl rfl ?_
      refine r_const (pc' := 281) rfl rfl ?_
      refine r_icmp_ne1 (pc' := 301) rfl rfl (by decide) (by decide) ?_
      refine r_aload (pc' := 302) rfl rfl rfl ?_
      refine r_getv (pc' := 305) (v := 0) rfl rfl (Or.inl rfl) rfl rfl ?_
      refine r_put (pc' := 308) rfl rfl rfl rfl ?_
      refine q_vret rfl rfl rfl ?_
      have hb : p = tkB (S 240) (S 232 9) (S 232 15) := by
        rw [← i2]; refine (scn_f (P := fun kk => S 240 kk = 32) ?_).symm
        by_cases zz : S 232 9 ≤ p
        · exact Or.inl zz
        · exact Or.inr (fun z => h4 ((hre_lt (by omega)).trans z))
      exact ⟨rfl, by show mx_up (st5 S p p 0 0 0) 232 17 0 = _; rw [st5_17]; exact stM_0 hb (hre_n (fun i => hB 240 i) (by omega))⟩
    · refine r_if_ge1 (pc' := 54) rfl rfl (by omega) (by omega) ?_
      refine r_iload (pc' := 55) rfl rfl rfl ?_
      refine r_i2l (pc' := 56) rfl rfl (by omega) ?_
      refine r_lcon (pc' := 59) rfl rfl ?_
      refine r_lcon (pc' := 62) rfl rfl ?_
      by_cases h7 : (97 : Int) ≤ (hre (S 240) (S 232 9) p) ∧ (hre (S 240) (S 232 9) p) ≤ (122 : Int)
      · skip
        refine q_callE (pc' := 65) (w := some (.inl 1)) (S2 := mx_up (mx_up (mx_up (mx_up S 232 15 p) 232 16 p) 232 18 0) 232 19 0) (st' := [.inl 1, .inr (.inr 232)]) rfl rfl rfl (bi_pos h7 (c_X11_in (a := (hre (S 240) (S 232 9) p)) (b := 97) (c := 122) (S := mx_up (mx_up (mx_up (mx_up S 232 15 p) 232 16 p) 232 18 0) 232 19 0)  (show -2147483648 ≤ (hre (S 240) (S 232 9) p) ∧ (hre (S 240) (S 232 9) p) < 2147483648 from by omega) (show -2147483648 ≤ (97 : Int) ∧ (97 : Int) < 2147483648 from by omega) (show -2147483648 ≤ (122 : Int) ∧ (122 : Int) < 2147483648 from by omega))) (by decide) rfl rfl (Nat.le_of_ble_eq_true rfl) (fun q => absurd rfl q) rfl rfl ?_
        refine r_if_eq0 (pc' := 68) rfl rfl (by decide) (by decide) ?_
        refine r_const (pc' := 69) rfl rfl ?_
        refine r_goto (pc' := 101) rfl rfl ?_
        refine r_put (pc' := 104) rfl rfl rfl rfl ?_
        refine r_aload (pc' := 105) rfl rfl rfl ?_
        refine r_getv (pc' := 108) (v := 1) rfl rfl (Or.inl rfl) rfl rfl ?_
        refine r_const (pc' := 109) rfl rfl ?_
        refine r_icmp_le1 (pc' := 122) rfl rfl (by decide) (by decide) ?_
        have hb : p = tkB (S 240) (S 232 9) (S 232 15) := by
          rw [← i2]; refine (scn_f (P := fun kk => S 240 kk = 32) ?_).symm
          by_cases zz : S 232 9 ≤ p
          · exact Or.inl zz
          · exact Or.inr (fun z => h4 ((hre_lt (by omega)).trans z))
        have ep := hre_p (T := S 240) (n := S 232 9) (p := p) (by omega)
        refine r_mem (show mx_up (mx_up (mx_up (mx_up (mx_up S 232 15 p) 232 16 p) 232 18 0) 232 19 0) 232 17 1 = mx_up (mx_up (mx_up (mx_up (mx_up S 232 15 p) 232 16 p) 232 18 0) 232 19 0) 232 17 1 from by rfl) ?_
        refine r_while (α := Int × Int) (fun z' => [some (.inr (.inr 232)), some (.inl (hre (S 240) (S 232 9) p))]) (fun z' => mx_up (mx_up (mx_up (mx_up (mx_up S 232 15 z'.1) 232 16 p) 232 18 z'.2) 232 19 0) 232 17 1) (fun z' => (p ≤ z'.1 ∧ z'.1 ≤ S 232 9) ∧ (scn (fun kk => srt (S 240 kk) = 1) (S 232 9) z'.1 = scn (fun kk => srt (S 240 kk) = 1) (S 232 9) p) ∧ (z'.2 = rwf (S 240) p (z'.1 - p))) (fun z' => (S 232 9 - z'.1).toNat) ?_ (p, 0) (show (p ≤ p ∧ p ≤ S 232 9) ∧ (scn (fun kk => srt (S 240 kk) = 1) (S 232 9) p = scn (fun kk => srt (S 240 kk) = 1) (S 232 9) p) ∧ (0 = rwf (S 240) p (p - p)) from by exact ⟨by omega, rfl, by rw [show p - p = 0 by omega]; rfl⟩)
        rintro ⟨q, wd⟩ hI' ih122
        have hI' : (p ≤ q ∧ q ≤ S 232 9) ∧ (scn (fun kk => srt (S 240 kk) = 1) (S 232 9) q = scn (fun kk => srt (S 240 kk) = 1) (S 232 9) p) ∧ (wd = rwf (S 240) p (q - p)) := hI'
        obtain ⟨i4, i5, i6⟩ := hI'
        show RS _ _ _ _ [some (.inr (.inr 232)), some (.inl (hre (S 240) (S 232 9) p))] [] (mx_up (mx_up (mx_up (mx_up (mx_up S 232 15 q) 232 16 p) 232 18 wd) 232 19 0) 232 17 1)
        have rb : -1 ≤ wd ∧ wd ≤ 72057594037927935 := by rw [i6]; exact rwf_b (fun i => hB 240 i) _ _
        refine r_aload (pc' := 123) rfl rfl rfl ?_
        refine r_getv (pc' := 126) (v := 1) rfl rfl (Or.inl rfl) rfl rfl ?_
        refine r_const (pc' := 127) rfl rfl ?_
        refine r_icmp_ne0 (pc' := 130) rfl rfl (by decide) (by decide) ?_
        refine r_aload (pc' := 131) rfl rfl rfl ?_
        refine q_callE (pc' := 134) (w := some (.inl (hre (S 240) (S 232 9) q))) (S2 := mx_up (mx_up (mx_up (mx_up (mx_up S 232 15 q) 232 16 p) 232 18 wd) 232 19 0) 232 17 1) (st' := [.inl (hre (S 240) (S 232 9) q)]) rfl rfl rfl (c_X11_here  (S := mx_up (mx_up (mx_up (mx_up (mx_up S 232 15 q) 232 16 p) 232 18 wd) 232 19 0) 232 17 1) (Bd_up (Bd_up (Bd_up (Bd_up (Bd_up hB (show (0 : Int) ≤ q from by omega) (show q ≤ (200 : Int) from by omega)) (show (0 : Int) ≤ p from by omega) (show p ≤ (200 : Int) from by omega)) (show (-9223372036854775808 : Int) ≤ wd from by omega) (show wd ≤ (9223372036854775807 : Int) from by omega)) (show (0 : Int) ≤ 0 from by omega) (show 0 ≤ (99 : Int) from by omega)) (show (0 : Int) ≤ 1 from by omega) (show 1 ≤ (4 : Int) from by omega)) ) (by decide) rfl rfl (Nat.le_of_ble_eq_true rfl) (fun _ _ => ⟨_, _, rfl, rfl⟩) rfl rfl ?_
        have b8 : -1 ≤ (hre (S 240) (S 232 9) q) ∧ (hre (S 240) (S 232 9) q) ≤ 255 := hre_b hT
        refine r_i2l (pc' := 135) rfl rfl (by omega) ?_
        refine r_lcon (pc' := 138) rfl rfl ?_
        refine r_lcon (pc' := 141) rfl rfl ?_
        by_cases h9 : (97 : Int) ≤ (hre (S 240) (S 232 9) q) ∧ (hre (S 240) (S 232 9) q) ≤ (122 : Int)
        · skip
          refine q_callE (pc' := 144) (w := some (.inl 1)) (S2 := mx_up (mx_up (mx_up (mx_up (mx_up S 232 15 q) 232 16 p) 232 18 wd) 232 19 0) 232 17 1) (st' := [.inl 1]) rfl rfl rfl (bi_pos h9 (c_X11_in (a := (hre (S 240) (S 232 9) q)) (b := 97) (c := 122) (S := mx_up (mx_up (mx_up (mx_up (mx_up S 232 15 q) 232 16 p) 232 18 wd) 232 19 0) 232 17 1)  (show -2147483648 ≤ (hre (S 240) (S 232 9) q) ∧ (hre (S 240) (S 232 9) q) < 2147483648 from by omega) (show -2147483648 ≤ (97 : Int) ∧ (97 : Int) < 2147483648 from by omega) (show -2147483648 ≤ (122 : Int) ∧ (122 : Int) < 2147483648 from by omega))) (by decide) rfl rfl (Nat.le_of_ble_eq_true rfl) (fun q => absurd rfl q) rfl rfl ?_
          refine r_if_eq0 (pc' := 147) rfl rfl (by decide) (by decide) ?_
          refine r_aload (pc' := 148) rfl rfl rfl ?_
          refine r_aload (pc' := 149) rfl rfl rfl ?_
          refine r_getv (pc' := 152) (v := q) rfl rfl (Or.inl rfl) rfl rfl ?_
          refine r_aload (pc' := 153) rfl rfl rfl ?_
          refine r_getv (pc' := 156) (v := p) rfl rfl (Or.inl rfl) rfl rfl ?_
          refine r_isub (pc' := 157) rfl rfl ?_
          refine r_const (pc' := 159) rfl rfl ?_
          by_cases h10 : (q - p) < 7
          · refine r_icmp_ge0 (pc' := 162) rfl rfl (by omega) (by omega) ?_
            refine r_aload (pc' := 163) rfl rfl rfl ?_
            refine r_getlv (pc' := 166) (v := wd) rfl rfl rfl rfl rfl ?_
            refine r_lcon (pc' := 169) rfl rfl ?_
            refine r_lmul (pc' := 170) rfl rfl ?_
            refine r_aload (pc' := 171) rfl rfl rfl ?_
            refine q_callE (pc' := 174) (w := some (.inl (hre (S 240) (S 232 9) q))) (S2 := mx_up (mx_up (mx_up (mx_up (mx_up S 232 15 q) 232 16 p) 232 18 wd) 232 19 0) 232 17 1) (st' := [.inl (hre (S 240) (S 232 9) q), .inr (.inl (wd * 256)), .inr (.inr 232)]) rfl rfl rfl (c_X11_here  (S := mx_up (mx_up (mx_up (mx_up (mx_up S 232 15 q) 232 16 p) 232 18 wd) 232 19 0) 232 17 1) (Bd_up (Bd_up (Bd_up (Bd_up (Bd_up hB (show (0 : Int) ≤ q from by omega) (show q ≤ (200 : Int) from by omega)) (show (0 : Int) ≤ p from by omega) (show p ≤ (200 : Int) from by omega)) (show (-9223372036854775808 : Int) ≤ wd from by omega) (show wd ≤ (9223372036854775807 : Int) from by omega)) (show (0 : Int) ≤ 0 from by omega) (show 0 ≤ (99 : Int) from by omega)) (show (0 : Int) ≤ 1 from by omega) (show 1 ≤ (4 : Int) from by omega)) ) (by decide) rfl rfl (Nat.le_of_ble_eq_true rfl) (fun _ _ => ⟨_, _, rfl, rfl⟩) rfl rfl ?_
            have b11 : -1 ≤ (hre (S 240) (S 232 9) q) ∧ (hre (S 240) (S 232 9) q) ≤ 255 := hre_b hT
            refine r_i2l (pc' := 175) rfl rfl (by omega) ?_
            refine r_ladd (pc' := 176) rfl rfl ?_
            refine r_goto (pc' := 182) rfl rfl ?_
            refine r_putl (pc' := 185) rfl rfl rfl rfl ?_
            refine r_aload (pc' := 186) rfl rfl rfl ?_
            refine r_dupr (pc' := 187) rfl rfl ?_
            refine r_getv (pc' := 190) (v := q) rfl rfl (Or.inl rfl) rfl rfl ?_
            refine r_const (pc' := 191) rfl rfl ?_
            refine r_iadd (pc' := 192) rfl rfl ?_
            refine r_put (pc' := 195) rfl rfl rfl rfl ?_
            refine r_goto (pc' := 122) rfl rfl ?_
            refine r_mem (show mx_up (mx_up (mx_up (mx_up (mx_up (mx_up (mx_up S 232 15 q) 232 16 p) 232 18 wd) 232 19 0) 232 17 1) 232 18 ((wd * 256) + (hre (S 240) (S 232 9) q))) 232 15 (q + 1) = mx_up (mx_up (mx_up (mx_up (mx_up S 232 15 (q + 1)) 232 16 p) 232 18 ((wd * 256) + (hre (S 240) (S 232 9) q))) 232 19 0) 232 17 1 from by exact (congrArg (fun z => mx_up z 232 15 (q + 1)) (st5_18 (S := S))).trans st5_15) ?_
            exact ih122 ((q + 1), ((wd * 256) + (hre (S 240) (S 232 9) q))) (show (p ≤ (q + 1) ∧ (q + 1) ≤ S 232 9) ∧ (scn (fun kk => srt (S 240 kk) = 1) (S 232 9) (q + 1) = scn (fun kk => srt (S 240 kk) = 1) (S 232 9) p) ∧ (((wd * 256) + (hre (S 240) (S 232 9) q)) = rwf (S 240) p ((q + 1) - p)) from by have e := hre_p (T := S 240) (n := S 232 9) (p := q) (by omega); have e2 : srt (S 240 q) = 1 := srt_l (by omega); exact ⟨by omega, by rw [← i5]; exact (scn_t (P := fun kk => srt (S 240 kk) = 1) e.1 e2).symm, by rw [rwf_s (by omega), ← i6, if_pos (by omega), ← e.2]⟩) (show (S 232 9 - (q + 1)).toNat < (S 232 9 - q).toNat from by have e := hre_p (T := S 240) (n := S 232 9) (p := q) (by omega); omega)
          · refine r_icmp_ge1 (pc' := 179) rfl rfl (by omega) (by omega) ?_
            refine r_lcon (pc' := 182) rfl rfl ?_
            refine r_putl (pc' := 185) rfl rfl rfl rfl ?_
            refine r_aload (pc' := 186) rfl rfl rfl ?_
            refine r_dupr (pc' := 187) rfl rfl ?_
            refine r_getv (pc' := 190) (v := q) rfl rfl (Or.inl rfl) rfl rfl ?_
            refine r_const (pc' := 191) rfl rfl ?_
            refine r_iadd (pc' := 192) rfl rfl ?_
            refine r_put (pc' := 195) rfl rfl rfl rfl ?_
            refine r_goto (pc' := 122) rfl rfl ?_
            refine r_mem (show mx_up (mx_up (mx_up (mx_up (mx_up (mx_up (mx_up S 232 15 q) 232 16 p) 232 18 wd) 232 19 0) 232 17 1) 232 18 (-1)) 232 15 (q + 1) = mx_up (mx_up (mx_up (mx_up (mx_up S 232 15 (q + 1)) 232 16 p) 232 18 (-1 : Int)) 232 19 0) 232 17 1 from by exact (congrArg (fun z => mx_up z 232 15 (q + 1)) (st5_18 (S := S))).trans st5_15) ?_
            exact ih122 ((q + 1), (-1)) (show (p ≤ (q + 1) ∧ (q + 1) ≤ S 232 9) ∧ (scn (fun kk => srt (S 240 kk) = 1) (S 232 9) (q + 1) = scn (fun kk => srt (S 240 kk) = 1) (S 232 9) p) ∧ ((-1 : Int) = rwf (S 240) p ((q + 1) - p)) from by have e := hre_p (T := S 240) (n := S 232 9) (p := q) (by omega); have e2 : srt (S 240 q) = 1 := srt_l (by omega); exact ⟨by omega, by rw [← i5]; exact (scn_t (P := fun kk => srt (S 240 kk) = 1) e.1 e2).symm, by rw [rwf_s (by omega), ← i6, if_neg (by omega)]⟩) (show (S 232 9 - (q + 1)).toNat < (S 232 9 - q).toNat from by have e := hre_p (T := S 240) (n := S 232 9) (p := q) (by omega); omega)
        · skip
          refine q_callE (pc' := 144) (w := some (.inl 0)) (S2 := mx_up (mx_up (mx_up (mx_up (mx_up S 232 15 q) 232 16 p) 232 18 wd) 232 19 0) 232 17 1) (st' := [.inl 0]) rfl rfl rfl (bi_neg h9 (c_X11_in (a := (hre (S 240) (S 232 9) q)) (b := 97) (c := 122) (S := mx_up (mx_up (mx_up (mx_up (mx_up S 232 15 q) 232 16 p) 232 18 wd) 232 19 0) 232 17 1)  (show -2147483648 ≤ (hre (S 240) (S 232 9) q) ∧ (hre (S 240) (S 232 9) q) < 2147483648 from by omega) (show -2147483648 ≤ (97 : Int) ∧ (97 : Int) < 2147483648 from by omega) (show -2147483648 ≤ (122 : Int) ∧ (122 : Int) < 2147483648 from by omega))) (by decide) rfl rfl (Nat.le_of_ble_eq_true rfl) (fun q => absurd rfl q) rfl rfl ?_
          refine r_if_eq1 (pc' := 198) rfl rfl (by decide) (by decide) ?_
          refine r_aload (pc' := 199) rfl rfl rfl ?_
          refine r_getv (pc' := 202) (v := 1) rfl rfl (Or.inl rfl) rfl rfl ?_
          refine r_const (pc' := 203) rfl rfl ?_
          refine r_icmp_ne1 (pc' := 275) rfl rfl (by decide) (by decide) ?_
          refine r_aload (pc' := 276) rfl rfl rfl ?_
          refine r_aload (pc' := 277) rfl rfl rfl ?_
          refine r_getv (pc' := 280) (v := 1) rfl rfl (Or.inl rfl) rfl rfl ?_
          refine r_const (pc' := 281) rfl rfl ?_
          refine r_icmp_ne1 (pc' := 301) rfl rfl (by decide) (by decide) ?_
          refine r_aload (pc' := 302) rfl rfl rfl ?_
          refine r_getv (pc' := 305) (v := 1) rfl rfl (Or.inl rfl) rfl rfl ?_
          refine r_put (pc' := 308) rfl rfl rfl rfl ?_
          refine q_vret rfl rfl rfl ?_
          have e := hre_p (T := S 240) (n := S 232 9) (p := p) (by omega)
          have hq : scn (fun i => srt (S 240 i) = 1) (S 232 9) p = q := by
            rw [← i5]; refine scn_f (P := fun kk => srt (S 240 kk) = 1) ?_
            by_cases z : S 232 9 ≤ q
            · exact Or.inl z
            · refine Or.inr (fun y => ?_)
              have y2 := (srt_e y).1 rfl
              rw [← hre_lt (T := S 240) (n := S 232 9) (p := q) (by omega)] at y2
              exact h9 y2
          exact ⟨rfl, by show mx_up (st5 S q p wd 0 1) 232 17 1 = _; rw [st5_17]; exact stM_1 hb e.1 (srt_l (by omega)) hq i6⟩
      · skip
        refine q_callE (pc' := 65) (w := some (.inl 0)) (S2 := mx_up (mx_up (mx_up (mx_up S 232 15 p) 232 16 p) 232 18 0) 232 19 0) (st' := [.inl 0, .inr (.inr 232)]) rfl rfl rfl (bi_neg h7 (c_X11_in (a := (hre (S 240) (S 232 9) p)) (b := 97) (c := 122) (S := mx_up (mx_up (mx_up (mx_up S 232 15 p) 232 16 p) 232 18 0) 232 19 0)  (show -2147483648 ≤ (hre (S 240) (S 232 9) p) ∧ (hre (S 240) (S 232 9) p) < 2147483648 from by omega) (show -2147483648 ≤ (97 : Int) ∧ (97 : Int) < 2147483648 from by omega) (show -2147483648 ≤ (122 : Int) ∧ (122 : Int) < 2147483648 from by omega))) (by decide) rfl rfl (Nat.le_of_ble_eq_true rfl) (fun q => absurd rfl q) rfl rfl ?_
        refine r_if_eq1 (pc' := 72) rfl rfl (by decide) (by decide) ?_
        refine r_iload (pc' := 73) rfl rfl rfl ?_
        refine r_i2l (pc' := 74) rfl rfl (by omega) ?_
        refine r_lcon (pc' := 77) rfl rfl ?_
        refine r_lcon (pc' := 80) rfl rfl ?_
        by_cases h12 : (48 : Int) ≤ (hre (S 240) (S 232 9) p) ∧ (hre (S 240) (S 232 9) p) ≤ (57 : Int)
        · skip
          refine q_callE (pc' := 83) (w := some (.inl 1)) (S2 := mx_up (mx_up (mx_up (mx_up S 232 15 p) 232 16 p) 232 18 0) 232 19 0) (st' := [.inl 1, .inr (.inr 232)]) rfl rfl rfl (bi_pos h12 (c_X11_in (a := (hre (S 240) (S 232 9) p)) (b := 48) (c := 57) (S := mx_up (mx_up (mx_up (mx_up S 232 15 p) 232 16 p) 232 18 0) 232 19 0)  (show -2147483648 ≤ (hre (S 240) (S 232 9) p) ∧ (hre (S 240) (S 232 9) p) < 2147483648 from by omega) (show -2147483648 ≤ (48 : Int) ∧ (48 : Int) < 2147483648 from by omega) (show -2147483648 ≤ (57 : Int) ∧ (57 : Int) < 2147483648 from by omega))) (by decide) rfl rfl (Nat.le_of_ble_eq_true rfl) (fun q => absurd rfl q) rfl rfl ?_
          refine r_if_eq0 (pc' := 86) rfl rfl (by decide) (by decide) ?_
          refine r_const (pc' := 87) rfl rfl ?_
          refine r_goto (pc' := 101) rfl rfl ?_
          refine r_put (pc' := 104) rfl rfl rfl rfl ?_
          refine r_aload (pc' := 105) rfl rfl rfl ?_
          refine r_getv (pc' := 108) (v := 2) rfl rfl (Or.inl rfl) rfl rfl ?_
          refine r_const (pc' := 109) rfl rfl ?_
          refine r_icmp_le1 (pc' := 122) rfl rfl (by decide) (by decide) ?_
          refine r_aload (pc' := 123) rfl rfl rfl ?_
          refine r_getv (pc' := 126) (v := 2) rfl rfl (Or.inl rfl) rfl rfl ?_
          refine r_const (pc' := 127) rfl rfl ?_
          refine r_icmp_ne1 (pc' := 198) rfl rfl (by decide) (by decide) ?_
          have hb : p = tkB (S 240) (S 232 9) (S 232 15) := by
            rw [← i2]; refine (scn_f (P := fun kk => S 240 kk = 32) ?_).symm
            by_cases zz : S 232 9 ≤ p
            · exact Or.inl zz
            · exact Or.inr (fun z => h4 ((hre_lt (by omega)).trans z))
          have ep := hre_p (T := S 240) (n := S 232 9) (p := p) (by omega)
          refine r_mem (show mx_up (mx_up (mx_up (mx_up (mx_up S 232 15 p) 232 16 p) 232 18 0) 232 19 0) 232 17 2 = mx_up (mx_up (mx_up (mx_up (mx_up S 232 15 p) 232 16 p) 232 18 0) 232 19 0) 232 17 2 from by rfl) ?_
          refine r_while (α := Int × Int) (fun z' => [some (.inr (.inr 232)), some (.inl (hre (S 240) (S 232 9) p))]) (fun z' => mx_up (mx_up (mx_up (mx_up (mx_up S 232 15 z'.1) 232 16 p) 232 18 0) 232 19 z'.2) 232 17 2) (fun z' => (p ≤ z'.1 ∧ z'.1 ≤ S 232 9) ∧ (scn (fun kk => srt (S 240 kk) = 2) (S 232 9) z'.1 = scn (fun kk => srt (S 240 kk) = 2) (S 232 9) p) ∧ (z'.2 = rvf (S 240) p (z'.1 - p)) ∧ ((z'.1 = p → z'.2 = 0) ∧ (z'.1 = p + 1 → z'.2 ≤ 9) ∧ 0 ≤ z'.2 ∧ z'.2 ≤ 99)) (fun z' => (S 232 9 - z'.1).toNat) ?_ (p, 0) (show (p ≤ p ∧ p ≤ S 232 9) ∧ (scn (fun kk => srt (S 240 kk) = 2) (S 232 9) p = scn (fun kk => srt (S 240 kk) = 2) (S 232 9) p) ∧ (0 = rvf (S 240) p (p - p)) ∧ ((p = p → 0 = 0) ∧ (p = p + 1 → 0 ≤ 9) ∧ 0 ≤ 0 ∧ 0 ≤ 99) from by exact ⟨by omega, rfl, by rw [show p - p = 0 by omega]; rfl, by omega⟩)
          rintro ⟨q, v⟩ hI' ih198
          have hI' : (p ≤ q ∧ q ≤ S 232 9) ∧ (scn (fun kk => srt (S 240 kk) = 2) (S 232 9) q = scn (fun kk => srt (S 240 kk) = 2) (S 232 9) p) ∧ (v = rvf (S 240) p (q - p)) ∧ ((q = p → v = 0) ∧ (q = p + 1 → v ≤ 9) ∧ 0 ≤ v ∧ v ≤ 99) := hI'
          obtain ⟨i7, i8, i9, ia⟩ := hI'
          show RS _ _ _ _ [some (.inr (.inr 232)), some (.inl (hre (S 240) (S 232 9) p))] [] (mx_up (mx_up (mx_up (mx_up (mx_up S 232 15 q) 232 16 p) 232 18 0) 232 19 v) 232 17 2)
          refine r_aload (pc' := 199) rfl rfl rfl ?_
          refine r_getv (pc' := 202) (v := 2) rfl rfl (Or.inl rfl) rfl rfl ?_
          refine r_const (pc' := 203) rfl rfl ?_
          refine r_icmp_ne0 (pc' := 206) rfl rfl (by decide) (by decide) ?_
          refine r_aload (pc' := 207) rfl rfl rfl ?_
          refine q_callE (pc' := 210) (w := some (.inl (hre (S 240) (S 232 9) q))) (S2 := mx_up (mx_up (mx_up (mx_up (mx_up S 232 15 q) 232 16 p) 232 18 0) 232 19 v) 232 17 2) (st' := [.inl (hre (S 240) (S 232 9) q)]) rfl rfl rfl (c_X11_here  (S := mx_up (mx_up (mx_up (mx_up (mx_up S 232 15 q) 232 16 p) 232 18 0) 232 19 v) 232 17 2) (Bd_up (Bd_up (Bd_up (Bd_up (Bd_up hB (show (0 : Int) ≤ q from by omega) (show q ≤ (200 : Int) from by omega)) (show (0 : Int) ≤ p from by omega) (show p ≤ (200 : Int) from by omega)) (show (-9223372036854775808 : Int) ≤ 0 from by omega) (show 0 ≤ (9223372036854775807 : Int) from by omega)) (show (0 : Int) ≤ v from by omega) (show v ≤ (99 : Int) from by omega)) (show (0 : Int) ≤ 2 from by omega) (show 2 ≤ (4 : Int) from by omega)) ) (by decide) rfl rfl (Nat.le_of_ble_eq_true rfl) (fun _ _ => ⟨_, _, rfl, rfl⟩) rfl rfl ?_
          have b13 : -1 ≤ (hre (S 240) (S 232 9) q) ∧ (hre (S 240) (S 232 9) q) ≤ 255 := hre_b hT
          refine r_i2l (pc' := 211) rfl rfl (by omega) ?_
          refine r_lcon (pc' := 214) rfl rfl ?_
          refine r_lcon (pc' := 217) rfl rfl ?_
          by_cases h14 : (48 : Int) ≤ (hre (S 240) (S 232 9) q) ∧ (hre (S 240) (S 232 9) q) ≤ (57 : Int)
          · skip
            refine q_callE (pc' := 220) (w := some (.inl 1)) (S2 := mx_up (mx_up (mx_up (mx_up (mx_up S 232 15 q) 232 16 p) 232 18 0) 232 19 v) 232 17 2) (st' := [.inl 1]) rfl rfl rfl (bi_pos h14 (c_X11_in (a := (hre (S 240) (S 232 9) q)) (b := 48) (c := 57) (S := mx_up (mx_up (mx_up (mx_up (mx_up S 232 15 q) 232 16 p) 232 18 0) 232 19 v) 232 17 2)  (show -2147483648 ≤ (hre (S 240) (S 232 9) q) ∧ (hre (S 240) (S 232 9) q) < 2147483648 from by omega) (show -2147483648 ≤ (48 : Int) ∧ (48 : Int) < 2147483648 from by omega) (show -2147483648 ≤ (57 : Int) ∧ (57 : Int) < 2147483648 from by omega))) (by decide) rfl rfl (Nat.le_of_ble_eq_true rfl) (fun q => absurd rfl q) rfl rfl ?_
            refine r_if_eq0 (pc' := 223) rfl rfl (by decide) (by decide) ?_
            refine r_aload (pc' := 224) rfl rfl rfl ?_
            refine r_aload (pc' := 225) rfl rfl rfl ?_
            refine r_getv (pc' := 228) (v := q) rfl rfl (Or.inl rfl) rfl rfl ?_
            refine r_aload (pc' := 229) rfl rfl rfl ?_
            refine r_getv (pc' := 232) (v := p) rfl rfl (Or.inl rfl) rfl rfl ?_
            refine r_isub (pc' := 233) rfl rfl ?_
            refine r_const (pc' := 234) rfl rfl ?_
            by_cases h15 : (q - p) < 2
            · refine r_icmp_ge0 (pc' := 237) rfl rfl (by omega) (by omega) ?_
              refine r_const (pc' := 239) rfl rfl ?_
              refine r_aload (pc' := 240) rfl rfl rfl ?_
              refine r_getv (pc' := 243) (v := v) rfl rfl (Or.inl rfl) rfl rfl ?_
              refine r_imul (pc' := 244) rfl rfl ?_
              refine r_aload (pc' := 245) rfl rfl rfl ?_
              refine q_callE (pc' := 248) (w := some (.inl (hre (S 240) (S 232 9) q))) (S2 := mx_up (mx_up (mx_up (mx_up (mx_up S 232 15 q) 232 16 p) 232 18 0) 232 19 v) 232 17 2) (st' := [.inl (hre (S 240) (S 232 9) q), .inl (10 * v), .inr (.inr 232)]) rfl rfl rfl (c_X11_here  (S := mx_up (mx_up (mx_up (mx_up (mx_up S 232 15 q) 232 16 p) 232 18 0) 232 19 v) 232 17 2) (Bd_up (Bd_up (Bd_up (Bd_up (Bd_up hB (show (0 : Int) ≤ q from by omega) (show q ≤ (200 : Int) from by omega)) (show (0 : Int) ≤ p from by omega) (show p ≤ (200 : Int) from by omega)) (show (-9223372036854775808 : Int) ≤ 0 from by omega) (show 0 ≤ (9223372036854775807 : Int) from by omega)) (show (0 : Int) ≤ v from by omega) (show v ≤ (99 : Int) from by omega)) (show (0 : Int) ≤ 2 from by omega) (show 2 ≤ (4 : Int) from by omega)) ) (by decide) rfl rfl (Nat.le_of_ble_eq_true rfl) (fun _ _ => ⟨_, _, rfl, rfl⟩) rfl rfl ?_
              have b16 : -1 ≤ (hre (S 240) (S 232 9) q) ∧ (hre (S 240) (S 232 9) q) ≤ 255 := hre_b hT
              refine r_iadd (pc' := 249) rfl rfl ?_
              refine r_const (pc' := 251) rfl rfl ?_
              refine r_isub (pc' := 252) rfl rfl ?_
              refine r_goto (pc' := 259) rfl rfl ?_
              refine r_put (pc' := 262) rfl rfl rfl rfl ?_
              refine r_aload (pc' := 263) rfl rfl rfl ?_
              refine r_dupr (pc' := 264) rfl rfl ?_
              refine r_getv (pc' := 267) (v := q) rfl rfl (Or.inl rfl) rfl rfl ?_
              refine r_const (pc' := 268) rfl rfl ?_
              refine r_iadd (pc' := 269) rfl rfl ?_
              refine r_put (pc' := 272) rfl rfl rfl rfl ?_
              refine r_goto (pc' := 198) rfl rfl ?_
              refine r_mem (show mx_up (mx_up (mx_up (mx_up (mx_up (mx_up (mx_up S 232 15 q) 232 16 p) 232 18 0) 232 19 v) 232 17 2) 232 19 (((10 * v) + (hre (S 240) (S 232 9) q)) - 48)) 232 15 (q + 1) = mx_up (mx_up (mx_up (mx_up (mx_up S 232 15 (q + 1)) 232 16 p) 232 18 0) 232 19 (((10 * v) + (hre (S 240) (S 232 9) q)) - 48)) 232 17 2 from by exact (congrArg (fun z => mx_up z 232 15 (q + 1)) (st5_19 (S := S))).trans st5_15) ?_
              exact ih198 ((q + 1), (((10 * v) + (hre (S 240) (S 232 9) q)) - 48)) (show (p ≤ (q + 1) ∧ (q + 1) ≤ S 232 9) ∧ (scn (fun kk => srt (S 240 kk) = 2) (S 232 9) (q + 1) = scn (fun kk => srt (S 240 kk) = 2) (S 232 9) p) ∧ ((((10 * v) + (hre (S 240) (S 232 9) q)) - 48) = rvf (S 240) p ((q + 1) - p)) ∧ (((q + 1) = p → (((10 * v) + (hre (S 240) (S 232 9) q)) - 48) = 0) ∧ ((q + 1) = p + 1 → (((10 * v) + (hre (S 240) (S 232 9) q)) - 48) ≤ 9) ∧ 0 ≤ (((10 * v) + (hre (S 240) (S 232 9) q)) - 48) ∧ (((10 * v) + (hre (S 240) (S 232 9) q)) - 48) ≤ 99) from by have e := hre_p (T := S 240) (n := S 232 9) (p := q) (by omega); have e2 : srt (S 240 q) = 2 := srt_d (by omega); exact ⟨by omega, by rw [← i8]; exact (scn_t (P := fun kk => srt (S 240 kk) = 2) e.1 e2).symm, by rw [rvf_s (by omega), ← i9, if_pos (by omega), ← e.2], by omega⟩) (show (S 232 9 - (q + 1)).toNat < (S 232 9 - q).toNat from by have e := hre_p (T := S 240) (n := S 232 9) (p := q) (by omega); omega)
            · refine r_icmp_ge1 (pc' := 255) rfl rfl (by omega) (by omega) ?_
              refine r_aload (pc' := 256) rfl rfl rfl ?_
              refine r_getv (pc' := 259) (v := v) rfl rfl (Or.inl rfl) rfl rfl ?_
              refine r_put (pc' := 262) rfl rfl rfl rfl ?_
              refine r_aload (pc' := 263) rfl rfl rfl ?_
              refine r_dupr (pc' := 264) rfl rfl ?_
              refine r_getv (pc' := 267) (v := q) rfl rfl (Or.inl rfl) rfl rfl ?_
              refine r_const (pc' := 268) rfl rfl ?_
              refine r_iadd (pc' := 269) rfl rfl ?_
              refine r_put (pc' := 272) rfl rfl rfl rfl ?_
              refine r_goto (pc' := 198) rfl rfl ?_
              refine r_mem (show mx_up (mx_up (mx_up (mx_up (mx_up (mx_up (mx_up S 232 15 q) 232 16 p) 232 18 0) 232 19 v) 232 17 2) 232 19 v) 232 15 (q + 1) = mx_up (mx_up (mx_up (mx_up (mx_up S 232 15 (q + 1)) 232 16 p) 232 18 0) 232 19 v) 232 17 2 from by exact (congrArg (fun z => mx_up z 232 15 (q + 1)) (st5_19 (S := S))).trans st5_15) ?_
              exact ih198 ((q + 1), v) (show (p ≤ (q + 1) ∧ (q + 1) ≤ S 232 9) ∧ (scn (fun kk => srt (S 240 kk) = 2) (S 232 9) (q + 1) = scn (fun kk => srt (S 240 kk) = 2) (S 232 9) p) ∧ (v = rvf (S 240) p ((q + 1) - p)) ∧ (((q + 1) = p → v = 0) ∧ ((q + 1) = p + 1 → v ≤ 9) ∧ 0 ≤ v ∧ v ≤ 99) from by have e := hre_p (T := S 240) (n := S 232 9) (p := q) (by omega); have e2 : srt (S 240 q) = 2 := srt_d (by omega); exact ⟨by omega, by rw [← i8]; exact (scn_t (P := fun kk => srt (S 240 kk) = 2) e.1 e2).symm, by rw [rvf_s (by omega), ← i9, if_neg (by omega)], by omega⟩) (show (S 232 9 - (q + 1)).toNat < (S 232 9 - q).toNat from by have e := hre_p (T := S 240) (n := S 232 9) (p := q) (by omega); omega)
          · skip
            refine q_callE (pc' := 220) (w := some (.inl 0)) (S2 := mx_up (mx_up (mx_up (mx_up (mx_up S 232 15 q) 232 16 p) 232 18 0) 232 19 v) 232 17 2) (st' := [.inl 0]) rfl rfl rfl (bi_neg h14 (c_X11_in (a := (hre (S 240) (S 232 9) q)) (b := 48) (c := 57) (S := mx_up (mx_up (mx_up (mx_up (mx_up S 232 15 q) 232 16 p) 232 18 0) 232 19 v) 232 17 2)  (show -2147483648 ≤ (hre (S 240) (S 232 9) q) ∧ (hre (S 240) (S 232 9) q) < 2147483648 from by omega) (show -2147483648 ≤ (48 : Int) ∧ (48 : Int) < 2147483648 from by omega) (show -2147483648 ≤ (57 : Int) ∧ (57 : Int) < 2147483648 from by omega))) (by decide) rfl rfl (Nat.le_of_ble_eq_true rfl) (fun q => absurd rfl q) rfl rfl ?_
            refine r_if_eq1 (pc' := 275) rfl rfl (by decide) (by decide) ?_
            refine r_aload (pc' := 276) rfl rfl rfl ?_
            refine r_aload (pc' := 277) rfl rfl rfl ?_
            refine r_getv (pc' := 280) (v := 2) rfl rfl (Or.inl rfl) rfl rfl ?_
            refine r_const (pc' := 281) rfl rfl ?_
            refine r_icmp_ne0 (pc' := 284) rfl rfl (by decide) (by decide) ?_
            refine r_aload (pc' := 285) rfl rfl rfl ?_
            refine r_getv (pc' := 288) (v := q) rfl rfl (Or.inl rfl) rfl rfl ?_
            refine r_aload (pc' := 289) rfl rfl rfl ?_
            refine r_getv (pc' := 292) (v := p) rfl rfl (Or.inl rfl) rfl rfl ?_
            refine r_isub (pc' := 293) rfl rfl ?_
            refine r_const (pc' := 294) rfl rfl ?_
            by_cases h17 : 2 < (q - p)
            · refine r_icmp_le0 (pc' := 297) rfl rfl (by omega) (by omega) ?_
              refine r_const (pc' := 298) rfl rfl ?_
              refine r_goto (pc' := 305) rfl rfl ?_
              refine r_put (pc' := 308) rfl rfl rfl rfl ?_
              refine q_vret rfl rfl rfl ?_
              have e := hre_p (T := S 240) (n := S 232 9) (p := p) (by omega)
              have hq : scn (fun i => srt (S 240 i) = 2) (S 232 9) p = q := by
                rw [← i8]; refine scn_f (P := fun kk => srt (S 240 kk) = 2) ?_
                by_cases z : S 232 9 ≤ q
                · exact Or.inl z
                · refine Or.inr (fun y => ?_)
                  have y2 := (srt_e y).2 rfl
                  rw [← hre_lt (T := S 240) (n := S 232 9) (p := q) (by omega)] at y2
                  exact h14 y2
              exact ⟨rfl, by show mx_up (st5 S q p 0 v 2) 232 17 4 = _; rw [st5_17]; exact stM_2 hb e.1 (srt_d (by omega)) hq i9 (by rw [if_pos (by omega)])⟩
            · refine r_icmp_le1 (pc' := 301) rfl rfl (by omega) (by omega) ?_
              refine r_aload (pc' := 302) rfl rfl rfl ?_
              refine r_getv (pc' := 305) (v := 2) rfl rfl (Or.inl rfl) rfl rfl ?_
              refine r_put (pc' := 308) rfl rfl rfl rfl ?_
              refine q_vret rfl rfl rfl ?_
              have e := hre_p (T := S 240) (n := S 232 9) (p := p) (by omega)
              have hq : scn (fun i => srt (S 240 i) = 2) (S 232 9) p = q := by
                rw [← i8]; refine scn_f (P := fun kk => srt (S 240 kk) = 2) ?_
                by_cases z : S 232 9 ≤ q
                · exact Or.inl z
                · refine Or.inr (fun y => ?_)
                  have y2 := (srt_e y).2 rfl
                  rw [← hre_lt (T := S 240) (n := S 232 9) (p := q) (by omega)] at y2
                  exact h14 y2
              exact ⟨rfl, by show mx_up (st5 S q p 0 v 2) 232 17 2 = _; rw [st5_17]; exact stM_2 hb e.1 (srt_d (by omega)) hq i9 (by rw [if_neg (by omega)])⟩
        · skip
          refine q_callE (pc' := 83) (w := some (.inl 0)) (S2 := mx_up (mx_up (mx_up (mx_up S 232 15 p) 232 16 p) 232 18 0) 232 19 0) (st' := [.inl 0, .inr (.inr 232)]) rfl rfl rfl (bi_neg h12 (c_X11_in (a := (hre (S 240) (S 232 9) p)) (b := 48) (c := 57) (S := mx_up (mx_up (mx_up (mx_up S 232 15 p) 232 16 p) 232 18 0) 232 19 0)  (show -2147483648 ≤ (hre (S 240) (S 232 9) p) ∧ (hre (S 240) (S 232 9) p) < 2147483648 from by omega) (show -2147483648 ≤ (48 : Int) ∧ (48 : Int) < 2147483648 from by omega) (show -2147483648 ≤ (57 : Int) ∧ (57 : Int) < 2147483648 from by omega))) (by decide) rfl rfl (Nat.le_of_ble_eq_true rfl) (fun q => absurd rfl q) rfl rfl ?_
          refine r_if_eq1 (pc' := 90) rfl rfl (by decide) (by decide) ?_
          refine r_iload (pc' := 91) rfl rfl rfl ?_
          refine r_const (pc' := 93) rfl rfl ?_
          by_cases h18 : (hre (S 240) (S 232 9) p) = 59
          · refine r_icmp_ne0 (pc' := 96) rfl rfl (by omega) (by omega) ?_
            refine r_const (pc' := 97) rfl rfl ?_
            refine r_goto (pc' := 101) rfl rfl ?_
            refine r_put (pc' := 104) rfl rfl rfl rfl ?_
            refine r_aload (pc' := 105) rfl rfl rfl ?_
            refine r_getv (pc' := 108) (v := 3) rfl rfl (Or.inl rfl) rfl rfl ?_
            refine r_const (pc' := 109) rfl rfl ?_
            refine r_icmp_le0 (pc' := 112) rfl rfl (by decide) (by decide) ?_
            refine r_aload (pc' := 113) rfl rfl rfl ?_
            refine r_dupr (pc' := 114) rfl rfl ?_
            refine r_getv (pc' := 117) (v := p) rfl rfl (Or.inl rfl) rfl rfl ?_
            refine r_const (pc' := 118) rfl rfl ?_
            refine r_iadd (pc' := 119) rfl rfl ?_
            refine r_put (pc' := 122) rfl rfl rfl rfl ?_
            refine r_aload (pc' := 123) rfl rfl rfl ?_
            refine r_getv (pc' := 126) (v := 3) rfl rfl (Or.inl rfl) rfl rfl ?_
            refine r_const (pc' := 127) rfl rfl ?_
            refine r_icmp_ne1 (pc' := 198) rfl rfl (by decide) (by decide) ?_
            refine r_aload (pc' := 199) rfl rfl rfl ?_
            refine r_getv (pc' := 202) (v := 3) rfl rfl (Or.inl rfl) rfl rfl ?_
            refine r_const (pc' := 203) rfl rfl ?_
            refine r_icmp_ne1 (pc' := 275) rfl rfl (by decide) (by decide) ?_
            refine r_aload (pc' := 276) rfl rfl rfl ?_
            refine r_aload (pc' := 277) rfl rfl rfl ?_
            refine r_getv (pc' := 280) (v := 3) rfl rfl (Or.inl rfl) rfl rfl ?_
            refine r_const (pc' := 281) rfl rfl ?_
            refine r_icmp_ne1 (pc' := 301) rfl rfl (by decide) (by decide) ?_
            refine r_aload (pc' := 302) rfl rfl rfl ?_
            refine r_getv (pc' := 305) (v := 3) rfl rfl (Or.inl rfl) rfl rfl ?_
            refine r_put (pc' := 308) rfl rfl rfl rfl ?_
            refine q_vret rfl rfl rfl ?_
            have hb : p = tkB (S 240) (S 232 9) (S 232 15) := by
              rw [← i2]; refine (scn_f (P := fun kk => S 240 kk = 32) ?_).symm
              by_cases zz : S 232 9 ≤ p
              · exact Or.inl zz
              · exact Or.inr (fun z => h4 ((hre_lt (by omega)).trans z))
            have e := hre_p (T := S 240) (n := S 232 9) (p := p) (by omega)
            exact ⟨rfl, by show mx_up (mx_up (st5 S p p 0 0 3) 232 15 (p + 1)) 232 17 3 = _; rw [st5_15, st5_17]; exact stM_3 hb e.1 (by rw [← e.2]; exact srt_x (by assumption) (by assumption)) (by rw [← e.2, if_pos (by assumption)])⟩
          · refine r_icmp_ne1 (pc' := 100) rfl rfl (by omega) (by omega) ?_
            refine r_const (pc' := 101) rfl rfl ?_
            refine r_put (pc' := 104) rfl rfl rfl rfl ?_
            refine r_aload (pc' := 105) rfl rfl rfl ?_
            refine r_getv (pc' := 108) (v := 4) rfl rfl (Or.inl rfl) rfl rfl ?_
            refine r_const (pc' := 109) rfl rfl ?_
            refine r_icmp_le0 (pc' := 112) rfl rfl (by decide) (by decide) ?_
            refine r_aload (pc' := 113) rfl rfl rfl ?_
            refine r_dupr (pc' := 114) rfl rfl ?_
            refine r_getv (pc' := 117) (v := p) rfl rfl (Or.inl rfl) rfl rfl ?_
            refine r_const (pc' := 118) rfl rfl ?_
            refine r_iadd (pc' := 119) rfl rfl ?_
            refine r_put (pc' := 122) rfl rfl rfl rfl ?_
            refine r_aload (pc' := 123) rfl rfl rfl ?_
            refine r_getv (pc' := 126) (v := 4) rfl rfl (Or.inl rfl) rfl rfl ?_
            refine r_const (pc' := 127) rfl rfl ?_
            refine r_icmp_ne1 (pc' := 198) rfl rfl (by decide) (by decide) ?_
            refine r_aload (pc' := 199) rfl rfl rfl ?_
            refine r_getv (pc' := 202) (v := 4) rfl rfl (Or.inl rfl) rfl rfl ?_
            refine r_const (pc' := 203) rfl rfl ?_
            refine r_icmp_ne1 (pc' := 275) rfl rfl (by decide) (by decide) ?_
            refine r_aload (pc' := 276) rfl rfl rfl ?_
            refine r_aload (pc' := 277) rfl rfl rfl ?_
            refine r_getv (pc' := 280) (v := 4) rfl rfl (Or.inl rfl) rfl rfl ?_
            refine r_const (pc' := 281) rfl rfl ?_
            refine r_icmp_ne1 (pc' := 301) rfl rfl (by decide) (by decide) ?_
            refine r_aload (pc' := 302) rfl rfl rfl ?_
            refine r_getv (pc' := 305) (v := 4) rfl rfl (Or.inl rfl) rfl rfl ?_
            refine r_put (pc' := 308) rfl rfl rfl rfl ?_
            refine q_vret rfl rfl rfl ?_
            have hb : p = tkB (S 240) (S 232 9) (S 232 15) := by
              rw [← i2]; refine (scn_f (P := fun kk => S 240 kk = 32) ?_).symm
              by_cases zz : S 232 9 ≤ p
              · exact Or.inl zz
              · exact Or.inr (fun z => h4 ((hre_lt (by omega)).trans z))
            have e := hre_p (T := S 240) (n := S 232 9) (p := p) (by omega)
            exact ⟨rfl, by show mx_up (mx_up (st5 S p p 0 0 4) 232 15 (p + 1)) 232 17 4 = _; rw [st5_15, st5_17]; exact stM_3 hb e.1 (by rw [← e.2]; exact srt_x (by assumption) (by assumption)) (by rw [← e.2, if_neg (by assumption)])⟩
