theorem pop_8n : ∀ n : Nat, n < 256 → pop n ≤ 8 := by decide +kernel
theorem pop_8 {a : Int} (h : 0 ≤ a ∧ a ≤ 255) : pop a ≤ 8 := by
  obtain ⟨n, rfl⟩ := Int.eq_ofNat_of_zero_le h.1
  exact pop_8n n (by omega)
theorem pop_7n : ∀ n : Nat, n < 128 → pop n ≤ 7 := by decide +kernel
theorem pop_7 {a : Int} (h : 0 ≤ a ∧ a ≤ 127) : pop a ≤ 7 := by
  obtain ⟨n, rfl⟩ := Int.eq_ofNat_of_zero_le h.1
  exact pop_7n n (by omega)
theorem wam_n : ∀ m : Fin 17, ∀ a : Fin 9, ∀ q : Fin 11, 0 ≤ wam ((m.val : Int) - 8) a.val q.val ∧ wam ((m.val : Int) - 8) a.val q.val ≤ 100000000 := by decide +kernel
theorem wam_b {m a q : Int} (hm : -8 ≤ m ∧ m ≤ 8) (ha : 0 ≤ a ∧ a ≤ 8) (hq : 0 ≤ q ∧ q ≤ 10) : 0 ≤ wam m a q ∧ wam m a q ≤ 100000000 := by
  obtain ⟨x, hx⟩ := Int.eq_ofNat_of_zero_le (show 0 ≤ m + 8 by omega)
  obtain ⟨a', rfl⟩ := Int.eq_ofNat_of_zero_le ha.1
  obtain ⟨q', rfl⟩ := Int.eq_ofNat_of_zero_le hq.1
  have := wam_n ⟨x, by omega⟩ ⟨a', by omega⟩ ⟨q', by omega⟩
  rw [show m = (x : Int) - 8 by omega]
  exact this
theorem pw_n : ∀ b : Fin 11, ∀ n : Fin 9, (0 ≤ pw b.val n.val ∧ pw b.val n.val ≤ 100000000) ∧ (b.val = 10 → 1 ≤ pw b.val n.val) := by decide +kernel
theorem pw_b {b n : Int} (hb : 0 ≤ b ∧ b ≤ 10) (hn : 0 ≤ n ∧ n ≤ 8) : (0 ≤ pw b n ∧ pw b n ≤ 100000000) ∧ (b = 10 → 1 ≤ pw b n) := by
  obtain ⟨b', rfl⟩ := Int.eq_ofNat_of_zero_le hb.1
  obtain ⟨n', rfl⟩ := Int.eq_ofNat_of_zero_le hn.1
  have := pw_n ⟨b', by omega⟩ ⟨n', by omega⟩
  exact ⟨this.1, fun h => this.2 (by show b' = 10; omega)⟩
theorem gc_b {a b : Int} (ha : 0 ≤ a) (hb : 1 ≤ b) : 1 ≤ gc a b ∧ gc a b ≤ b := by
  obtain ⟨y, rfl⟩ := Int.eq_ofNat_of_zero_le (show 0 ≤ b by omega)
  unfold gc
  have h0 : 0 < y := by omega
  have h1 : Nat.gcd a.toNat ((y : Nat) : Int).toNat = Nat.gcd a.toNat y := rfl
  rw [h1]
  have h2 := Nat.gcd_le_right a.toNat h0
  have h3 := Nat.gcd_pos_of_pos_right a.toNat h0
  omega
/-- how many words have one letter at a place, at most -/
noncomputable def malk (S : rS) (g q : Int) : Int := mxs (fun kk => if tb g kk then sm (fun jj => bi (tb g jj ∧ S (43 + jj) q = S (43 + kk) q)) (S 25 10) else 0) (S 25 10)
noncomputable def whs (S : rS) (g f : Int) : Int → Int × Int → Int × Int := fun kk z => if tb (S 60 f) kk then z else if malk S g kk < z.2 then (kk, malk S g kk) else z
noncomputable def fitk (S : rS) (f w : Int) : Int := bs (fun kk => fitw S kk f w) (S 25 10)
noncomputable def wch (S : rS) (f w : Int) : Int := if fitk S f w = 0 then -1 else (fo (whs S (fitk S f w) f) (-1, 9) (S 29 f).toNat).1
/-- fewest gates -/
def rchk (S : rS) (g a : Int) : Int := fo (fun _ xx => rgt S g xx) (mx_shl 1 a) (S 25 0 - 1).toNat
def lss (S : rS) (w : Int) : Int → Int × Int → Int × Int := fun kk z => if pop kk < z.2 then if mx_and (rchk S kk (S 59 4)) w = w then (kk, pop kk) else z else z
noncomputable def lsk (S : rS) (t : Int) : Int := if bs (fun kk => S 27 kk = t) (S 25 0) = 0 then -1 else (fo (lss S (bs (fun kk => S 27 kk = t) (S 25 0))) (-1, 10) (mx_shl 1 (S 25 6)).toNat).1
theorem sh9_n : ∀ n : Nat, n < 10 → 1 ≤ mx_shl 1 n ∧ mx_shl 1 n ≤ 512 := by decide +kernel
theorem sh9 {n : Int} (h : 0 ≤ n ∧ n ≤ 9) : 1 ≤ mx_shl 1 n ∧ mx_shl 1 n ≤ 512 := by
  obtain ⟨n', rfl⟩ := Int.eq_ofNat_of_zero_le h.1
  exact sh9_n n' (by omega)
theorem mins34 {k a : Int} (h : 0 ≤ a ∧ a ≤ 255) : 0 ≤ mins k (pop a) ∧ mins k (pop a) ≤ 34 := by
  have q1 := mins_r (k := k) (pop_r a).1
  have q2 := pop_8 h
  omega
theorem up_up {S : rS} {a i v w : Int} : mx_up (mx_up S a i v) a i w = mx_up S a i w := by
  funext x y; unfold mx_up; split <;> rfl
theorem up_comm {S : rS} {a i v b j w : Int} (h : ¬ (a = b ∧ i = j)) : mx_up (mx_up S a i v) b j w = mx_up (mx_up S b j w) a i v := by
  funext x y; unfold mx_up
  by_cases h1 : x = b ∧ y = j
  · rw [if_pos h1]
    by_cases h2 : x = a ∧ y = i
    · exact absurd ⟨h2.1.symm.trans h1.1, h2.2.symm.trans h1.2⟩ h
    · rw [if_neg h2, if_pos h1]
  · rw [if_neg h1]
    by_cases h2 : x = a ∧ y = i
    · rw [if_pos h2, if_pos h2]
    · rw [if_neg h2, if_neg h2, if_neg h1]
theorem up_fl {S : rS} {A B i v n : Int} {g : Int → Int} (h : ¬ B = A) : mx_up (fl S A g n) B i v = fl (mx_up S B i v) A g n := by
  funext x y; unfold mx_up fl
  by_cases h1 : x = B ∧ y = i
  · rw [if_pos h1, if_neg (fun q => h (h1.1.symm.trans q.1))]; exact (if_pos h1).symm
  · rw [if_neg h1]
    by_cases h2 : x = A ∧ 0 ≤ y ∧ y < n
    · rw [if_pos h2, if_pos h2]
    · rw [if_neg h2, if_neg h2]; exact (if_neg h1).symm
noncomputable def v_X10_odds (S : rS) (f : Int) (m : Int) (q : Int) (t : Int) : Int := if 0 ≤ f ∧ f < S 25 0 then if m < 0 then (-3) else if 8 < m then (-3) else if q < 0 then (-3) else if 10 < q then (-3) else if t < 0 then (-3) else if 1 < t then (-3) else if (gc (wam ((pop (S 60 f)) - m) (pop (mx_and (S 60 f) (bs (fun kk => btake (S 26 f) (S (31 + f) kk)) (S 29 f)))) q) (pw (10 : Int) (pop (mx_and (S 60 f) (bs (fun kk => btake (S 26 f) (S (31 + f) kk)) (S 29 f)))))) = 0 then (-1) else if t = 0 then (wam ((pop (S 60 f)) - m) (pop (mx_and (S 60 f) (bs (fun kk => btake (S 26 f) (S (31 + f) kk)) (S 29 f)))) q) / (gc (wam ((pop (S 60 f)) - m) (pop (mx_and (S 60 f) (bs (fun kk => btake (S 26 f) (S (31 + f) kk)) (S 29 f)))) q) (pw (10 : Int) (pop (mx_and (S 60 f) (bs (fun kk => btake (S 26 f) (S (31 + f) kk)) (S 29 f)))))) else (pw (10 : Int) (pop (mx_and (S 60 f) (bs (fun kk => btake (S 26 f) (S (31 + f) kk)) (S 29 f))))) / (gc (wam ((pop (S 60 f)) - m) (pop (mx_and (S 60 f) (bs (fun kk => btake (S 26 f) (S (31 + f) kk)) (S 29 f)))) q) (pw (10 : Int) (pop (mx_and (S 60 f) (bs (fun kk => btake (S 26 f) (S (31 + f) kk)) (S 29 f)))))) else (-2)
theorem c_X10_odds {f : Int} {m : Int} {q : Int} {t : Int} {S : rS} (hB : Bd S) (h_f : -2147483648 ≤ f ∧ f < 2147483648) (h_m : -2147483648 ≤ m ∧ m < 2147483648) (h_q : -2147483648 ≤ q ∧ q < 2147483648) (h_t : -2147483648 ≤ t ∧ t < 2147483648) : CS 3 40 [.inr (.inr 0), .inl f, .inl m, .inl q, .inl t] S (fun r' S' => r' = some (.inl (v_X10_odds S f m q t)) ∧ S' = S) := by
  refine RS.beg (ls := [some (.inr (.inr 0)), some (.inl f), some (.inl m), some (.inl q), some (.inl t), none, none, none, none, none, none, none, none]) rfl rfl rfl rfl rfl ?_
  have b0 : 0 ≤ S 25 0 ∧ S 25 0 ≤ 7 := hB 25 0
  refine r_aload (pc' := 1) rfl rfl rfl ?_
  refine r_getr (pc' := 4) (v := 25) rfl rfl rfl rfl rfl ?_
  refine r_iload (pc' := 5) rfl rfl rfl ?_
  have b1 : 0 ≤ S 25 0 ∧ S 25 0 ≤ 7 := hB 25 0
  by_cases h2 : 0 ≤ f ∧ f < S 25 0
  · skip
    refine q_callE (pc' := 8) (w := some (.inl 1)) (S2 := S) (st' := [.inl 1]) rfl rfl rfl (bi_pos h2 (c_X3_hasField (f := f) (S := S) hB (show -2147483648 ≤ f ∧ f < 2147483648 from by omega))) (by decide) rfl rfl (Nat.le_of_ble_eq_true rfl) (fun _ _ => ⟨_, _, rfl, rfl⟩) rfl rfl ?_
    refine r_if_ne1 (pc' := 14) rfl rfl (by decide) (by decide) ?_
    refine r_iload (pc' := 15) rfl rfl rfl ?_
    by_cases h3 : m < 0
    · refine r_if_lt1 (pc' := 45) rfl rfl (by omega) (by omega) ?_
      refine r_const (pc' := 47) rfl rfl ?_
      refine q_iret rfl rfl rfl ?_
      exact ⟨by unfold v_X10_odds; rw [if_pos h2, if_pos h3], rfl⟩
    · refine r_if_lt0 (pc' := 18) rfl rfl (by omega) (by omega) ?_
      refine r_iload (pc' := 19) rfl rfl rfl ?_
      refine r_const (pc' := 21) rfl rfl ?_
      by_cases h4 : 8 < m
      · refine r_icmp_gt1 (pc' := 45) rfl rfl (by omega) (by omega) ?_
        refine r_const (pc' := 47) rfl rfl ?_
        refine q_iret rfl rfl rfl ?_
        exact ⟨by unfold v_X10_odds; rw [if_pos h2, if_neg h3, if_pos h4], rfl⟩
      · refine r_icmp_gt0 (pc' := 24) rfl rfl (by omega) (by omega) ?_
        refine r_iload (pc' := 25) rfl rfl rfl ?_
        by_cases h5 : q < 0
        · refine r_if_lt1 (pc' := 45) rfl rfl (by omega) (by omega) ?_
          refine r_const (pc' := 47) rfl rfl ?_
          refine q_iret rfl rfl rfl ?_
          exact ⟨by unfold v_X10_odds; rw [if_pos h2, if_neg h3, if_neg h4, if_pos h5], rfl⟩
        · refine r_if_lt0 (pc' := 28) rfl rfl (by omega) (by omega) ?_
          refine r_iload (pc' := 29) rfl rfl rfl ?_
          refine r_const (pc' := 31) rfl rfl ?_
          by_cases h6 : 10 < q
          · refine r_icmp_gt1 (pc' := 45) rfl rfl (by omega) (by omega) ?_
            refine r_const (pc' := 47) rfl rfl ?_
            refine q_iret rfl rfl rfl ?_
            exact ⟨by unfold v_X10_odds; rw [if_pos h2, if_neg h3, if_neg h4, if_neg h5, if_pos h6], rfl⟩
          · refine r_icmp_gt0 (pc' := 34) rfl rfl (by omega) (by omega) ?_
            refine r_iload (pc' := 36) rfl rfl rfl ?_
            by_cases h7 : t < 0
            · refine r_if_lt1 (pc' := 45) rfl rfl (by omega) (by omega) ?_
              refine r_const (pc' := 47) rfl rfl ?_
              refine q_iret rfl rfl rfl ?_
              exact ⟨by unfold v_X10_odds; rw [if_pos h2, if_neg h3, if_neg h4, if_neg h5, if_neg h6, if_pos h7], rfl⟩
            · refine r_if_lt0 (pc' := 39) rfl rfl (by omega) (by omega) ?_
              refine r_iload (pc' := 41) rfl rfl rfl ?_
              refine r_const (pc' := 42) rfl rfl ?_
              by_cases h8 : 1 < t
              · refine r_icmp_le0 (pc' := 45) rfl rfl (by omega) (by omega) ?_
                refine r_const (pc' := 47) rfl rfl ?_
                refine q_iret rfl rfl rfl ?_
                exact ⟨by unfold v_X10_odds; rw [if_pos h2, if_neg h3, if_neg h4, if_neg h5, if_neg h6, if_neg h7, if_pos h8], rfl⟩
              · refine r_icmp_le1 (pc' := 48) rfl rfl (by omega) (by omega) ?_
                refine r_aload (pc' := 49) rfl rfl rfl ?_
                refine r_getr (pc' := 52) (v := 59) rfl rfl rfl rfl rfl ?_
                refine r_getr (pc' := 55) (v := 60) rfl rfl rfl rfl rfl ?_
                refine r_iload (pc' := 56) rfl rfl rfl ?_
                refine r_aldv (pc' := 57) (v := (S 60 f)) 7 rfl rfl rfl (by omega) rfl ?_
                have b9 : 0 ≤ S 60 f ∧ S 60 f ≤ 255 := hB 60 f
                refine r_aload (pc' := 58) rfl rfl rfl ?_
                refine r_iload (pc' := 59) rfl rfl rfl ?_
                have b10 : 0 ≤ S 26 f ∧ S 26 f ≤ 3 := hB 26 f
                have b11 : 0 ≤ S 29 f ∧ S 29 f ≤ 8 := hB 29 f
                refine q_callE (pc' := 62) (w := some (.inl (bs (fun kk => btake (S 26 f) (S (31 + f) kk)) (S 29 f)))) (S2 := S) (st' := [.inl (bs (fun kk => btake (S 26 f) (S (31 + f) kk)) (S 29 f)), .inl (S 60 f)]) rfl rfl rfl (c_X10_birdPlaces (f := f) (S := S) hB (show 0 ≤ f ∧ f < 7 from by omega)) (by decide) rfl rfl (Nat.le_of_ble_eq_true rfl) (fun _ _ => ⟨_, _, rfl, rfl⟩) rfl rfl ?_
                have b12 : 0 ≤ (bs (fun kk => btake (S 26 f) (S (31 + f) kk)) (S 29 f)) ∧ (bs (fun kk => btake (S 26 f) (S (31 + f) kk)) (S 29 f)) < 256 := bs8 (hB 29 f)
                refine r_iand (pc' := 63) rfl rfl ?_
                have b13 := mx_and_r (S 60 f) (bs (fun kk => btake (S 26 f) (S (31 + f) kk)) (S 29 f))
                have e14 := and_u (a := S 60 f) (b := (bs (fun kk => btake (S 26 f) (S (31 + f) kk)) (S 29 f))) 8 (by omega) (by omega) (by omega)
                have e915 := pop_8 (a := mx_and (S 60 f) (bs (fun kk => btake (S 26 f) (S (31 + f) kk)) (S 29 f))) (by omega)
                refine q_callE (pc' := 66) (w := some (.inl (pop (mx_and (S 60 f) (bs (fun kk => btake (S 26 f) (S (31 + f) kk)) (S 29 f)))))) (S2 := S) (st' := [.inl (pop (mx_and (S 60 f) (bs (fun kk => btake (S 26 f) (S (31 + f) kk)) (S 29 f))))]) rfl rfl rfl (c_J6_bitCount_0f7a4 (a := (mx_and (S 60 f) (bs (fun kk => btake (S 26 f) (S (31 + f) kk)) (S 29 f)))) (S := S)  (show 0 ≤ (mx_and (S 60 f) (bs (fun kk => btake (S 26 f) (S (31 + f) kk)) (S 29 f))) ∧ (mx_and (S 60 f) (bs (fun kk => btake (S 26 f) (S (31 + f) kk)) (S 29 f))) < 512 from by omega)) (by decide) rfl rfl (Nat.le_of_ble_eq_true rfl) (fun q => absurd rfl q) rfl rfl ?_
                have b16 : 0 ≤ (pop (mx_and (S 60 f) (bs (fun kk => btake (S 26 f) (S (31 + f) kk)) (S 29 f)))) ∧ (pop (mx_and (S 60 f) (bs (fun kk => btake (S 26 f) (S (31 + f) kk)) (S 29 f)))) ≤ 9 := pop_r _
                refine r_istore (pc' := 68) (ls' := [some (.inr (.inr 0)), some (.inl f), some (.inl m), some (.inl q), some (.inl t), some (.inl (pop (mx_and (S 60 f) (bs (fun kk => btake (S 26 f) (S (31 + f) kk)) (S 29 f))))), none, none, none, none, none, none, none]) rfl rfl rfl rfl ?_
                refine r_aload (pc' := 69) rfl rfl rfl ?_
                refine r_getr (pc' := 72) (v := 59) rfl rfl rfl rfl rfl ?_
                refine r_getr (pc' := 75) (v := 60) rfl rfl rfl rfl rfl ?_
                refine r_iload (pc' := 76) rfl rfl rfl ?_
                refine r_aldv (pc' := 77) (v := (S 60 f)) 7 rfl rfl rfl (by omega) rfl ?_
                refine q_callE (pc' := 80) (w := some (.inl (pop (S 60 f)))) (S2 := S) (st' := [.inl (pop (S 60 f))]) rfl rfl rfl (c_J6_bitCount_0f7a4 (a := (S 60 f)) (S := S)  (show 0 ≤ (S 60 f) ∧ (S 60 f) < 512 from by omega)) (by decide) rfl rfl (Nat.le_of_ble_eq_true rfl) (fun q => absurd rfl q) rfl rfl ?_
                have b17 : 0 ≤ (pop (S 60 f)) ∧ (pop (S 60 f)) ≤ 9 := pop_r _
                refine r_iload (pc' := 81) rfl rfl rfl ?_
                have p8 := pop_8 (a := S 60 f) (by omega)
                refine r_isub (pc' := 82) rfl rfl ?_
                refine r_istore (pc' := 84) (ls' := [some (.inr (.inr 0)), some (.inl f), some (.inl m), some (.inl q), some (.inl t), some (.inl (pop (mx_and (S 60 f) (bs (fun kk => btake (S 26 f) (S (31 + f) kk)) (S 29 f))))), some (.inl ((pop (S 60 f)) - m)), none, none, none, none, none, none]) rfl rfl rfl rfl ?_
                refine r_iload (pc' := 86) rfl rfl rfl ?_
                refine r_iload (pc' := 88) rfl rfl rfl ?_
                refine r_iload (pc' := 89) rfl rfl rfl ?_
                refine q_callE (pc' := 92) (w := some (.inr (.inl (wam ((pop (S 60 f)) - m) (pop (mx_and (S 60 f) (bs (fun kk => btake (S 26 f) (S (31 + f) kk)) (S 29 f)))) q)))) (S2 := S) (st' := [.inr (.inl (wam ((pop (S 60 f)) - m) (pop (mx_and (S 60 f) (bs (fun kk => btake (S 26 f) (S (31 + f) kk)) (S 29 f)))) q))]) rfl rfl rfl (c_X2_waysOfAtMost (m := ((pop (S 60 f)) - m)) (a := (pop (mx_and (S 60 f) (bs (fun kk => btake (S 26 f) (S (31 + f) kk)) (S 29 f))))) (q := q) (S := S)  (show -8 ≤ ((pop (S 60 f)) - m) ∧ ((pop (S 60 f)) - m) ≤ 8 from by omega) (show 0 ≤ (pop (mx_and (S 60 f) (bs (fun kk => btake (S 26 f) (S (31 + f) kk)) (S 29 f)))) ∧ (pop (mx_and (S 60 f) (bs (fun kk => btake (S 26 f) (S (31 + f) kk)) (S 29 f)))) ≤ 8 from by omega) (show 0 ≤ q ∧ q ≤ 10 from by omega)) (by decide) rfl rfl (Nat.le_of_ble_eq_true rfl) (fun q => absurd rfl q) rfl rfl ?_
                have b18 : 0 ≤ (wam ((pop (S 60 f)) - m) (pop (mx_and (S 60 f) (bs (fun kk => btake (S 26 f) (S (31 + f) kk)) (S 29 f)))) q) ∧ (wam ((pop (S 60 f)) - m) (pop (mx_and (S 60 f) (bs (fun kk => btake (S 26 f) (S (31 + f) kk)) (S 29 f)))) q) ≤ 100000000 := wam_b (by omega) (by omega) (by omega)
                refine r_lstore (pc' := 94) (ls' := [some (.inr (.inr 0)), some (.inl f), some (.inl m), some (.inl q), some (.inl t), some (.inl (pop (mx_and (S 60 f) (bs (fun kk => btake (S 26 f) (S (31 + f) kk)) (S 29 f))))), some (.inl ((pop (S 60 f)) - m)), some (.inr (.inl (wam ((pop (S 60 f)) - m) (pop (mx_and (S 60 f) (bs (fun kk => btake (S 26 f) (S (31 + f) kk)) (S 29 f)))) q))), none, none, none, none, none]) rfl rfl rfl rfl ?_
                refine r_const (pc' := 96) rfl rfl ?_
                refine r_iload (pc' := 98) rfl rfl rfl ?_
                refine q_callE (pc' := 101) (w := some (.inr (.inl (pw (10 : Int) (pop (mx_and (S 60 f) (bs (fun kk => btake (S 26 f) (S (31 + f) kk)) (S 29 f)))))))) (S2 := S) (st' := [.inr (.inl (pw (10 : Int) (pop (mx_and (S 60 f) (bs (fun kk => btake (S 26 f) (S (31 + f) kk)) (S 29 f))))))]) rfl rfl rfl (c_X2_power (b := 10) (n := (pop (mx_and (S 60 f) (bs (fun kk => btake (S 26 f) (S (31 + f) kk)) (S 29 f))))) (S := S)  (show 0 ≤ (10 : Int) ∧ (10 : Int) ≤ 10 from by omega) (show 0 ≤ (pop (mx_and (S 60 f) (bs (fun kk => btake (S 26 f) (S (31 + f) kk)) (S 29 f)))) ∧ (pop (mx_and (S 60 f) (bs (fun kk => btake (S 26 f) (S (31 + f) kk)) (S 29 f)))) ≤ 8 from by omega)) (by decide) rfl rfl (Nat.le_of_ble_eq_true rfl) (fun q => absurd rfl q) rfl rfl ?_
                have b19 : (0 ≤ (pw (10 : Int) (pop (mx_and (S 60 f) (bs (fun kk => btake (S 26 f) (S (31 + f) kk)) (S 29 f))))) ∧ (pw (10 : Int) (pop (mx_and (S 60 f) (bs (fun kk => btake (S 26 f) (S (31 + f) kk)) (S 29 f))))) ≤ 100000000) ∧ ((10 : Int) = 10 → 1 ≤ (pw (10 : Int) (pop (mx_and (S 60 f) (bs (fun kk => btake (S 26 f) (S (31 + f) kk)) (S 29 f)))))) := pw_b (by omega) (by omega)
                refine r_lstore (pc' := 103) (ls' := [some (.inr (.inr 0)), some (.inl f), some (.inl m), some (.inl q), some (.inl t), some (.inl (pop (mx_and (S 60 f) (bs (fun kk => btake (S 26 f) (S (31 + f) kk)) (S 29 f))))), some (.inl ((pop (S 60 f)) - m)), some (.inr (.inl (wam ((pop (S 60 f)) - m) (pop (mx_and (S 60 f) (bs (fun kk => btake (S 26 f) (S (31 + f) kk)) (S 29 f)))) q))), none, some (.inr (.inl (pw (10 : Int) (pop (mx_and (S 60 f) (bs (fun kk => btake (S 26 f) (S (31 + f) kk)) (S 29 f))))))), none, none, none]) rfl rfl rfl rfl ?_
                refine r_lload (pc' := 105) rfl rfl rfl ?_
                refine r_lload (pc' := 107) rfl rfl rfl ?_
                refine q_callE (pc' := 110) (w := some (.inr (.inl (gc (wam ((pop (S 60 f)) - m) (pop (mx_and (S 60 f) (bs (fun kk => btake (S 26 f) (S (31 + f) kk)) (S 29 f)))) q) (pw (10 : Int) (pop (mx_and (S 60 f) (bs (fun kk => btake (S 26 f) (S (31 + f) kk)) (S 29 f))))))))) (S2 := S) (st' := [.inr (.inl (gc (wam ((pop (S 60 f)) - m) (pop (mx_and (S 60 f) (bs (fun kk => btake (S 26 f) (S (31 + f) kk)) (S 29 f)))) q) (pw (10 : Int) (pop (mx_and (S 60 f) (bs (fun kk => btake (S 26 f) (S (31 + f) kk)) (S 29 f)))))))]) rfl rfl rfl (c_X2_commonDivisor (a := (wam ((pop (S 60 f)) - m) (pop (mx_and (S 60 f) (bs (fun kk => btake (S 26 f) (S (31 + f) kk)) (S 29 f)))) q)) (b := (pw (10 : Int) (pop (mx_and (S 60 f) (bs (fun kk => btake (S 26 f) (S (31 + f) kk)) (S 29 f)))))) (S := S)  (show 0 ≤ (wam ((pop (S 60 f)) - m) (pop (mx_and (S 60 f) (bs (fun kk => btake (S 26 f) (S (31 + f) kk)) (S 29 f)))) q) ∧ (wam ((pop (S 60 f)) - m) (pop (mx_and (S 60 f) (bs (fun kk => btake (S 26 f) (S (31 + f) kk)) (S 29 f)))) q) ≤ 100000000 from by omega) (show 0 < (pw (10 : Int) (pop (mx_and (S 60 f) (bs (fun kk => btake (S 26 f) (S (31 + f) kk)) (S 29 f))))) ∧ (pw (10 : Int) (pop (mx_and (S 60 f) (bs (fun kk => btake (S 26 f) (S (31 + f) kk)) (S 29 f))))) ≤ 100000000 from by omega)) (by decide) rfl rfl (Nat.le_of_ble_eq_true rfl) (fun q => absurd rfl q) rfl rfl ?_
                have b20 : 1 ≤ (gc (wam ((pop (S 60 f)) - m) (pop (mx_and (S 60 f) (bs (fun kk => btake (S 26 f) (S (31 + f) kk)) (S 29 f)))) q) (pw (10 : Int) (pop (mx_and (S 60 f) (bs (fun kk => btake (S 26 f) (S (31 + f) kk)) (S 29 f)))))) ∧ (gc (wam ((pop (S 60 f)) - m) (pop (mx_and (S 60 f) (bs (fun kk => btake (S 26 f) (S (31 + f) kk)) (S 29 f)))) q) (pw (10 : Int) (pop (mx_and (S 60 f) (bs (fun kk => btake (S 26 f) (S (31 + f) kk)) (S 29 f)))))) ≤ (pw (10 : Int) (pop (mx_and (S 60 f) (bs (fun kk => btake (S 26 f) (S (31 + f) kk)) (S 29 f))))) := gc_b (by omega) (by omega)
                refine r_lstore (pc' := 112) (ls' := [some (.inr (.inr 0)), some (.inl f), some (.inl m), some (.inl q), some (.inl t), some (.inl (pop (mx_and (S 60 f) (bs (fun kk => btake (S 26 f) (S (31 + f) kk)) (S 29 f))))), some (.inl ((pop (S 60 f)) - m)), some (.inr (.inl (wam ((pop (S 60 f)) - m) (pop (mx_and (S 60 f) (bs (fun kk => btake (S 26 f) (S (31 + f) kk)) (S 29 f)))) q))), none, some (.inr (.inl (pw (10 : Int) (pop (mx_and (S 60 f) (bs (fun kk => btake (S 26 f) (S (31 + f) kk)) (S 29 f))))))), none, some (.inr (.inl (gc (wam ((pop (S 60 f)) - m) (pop (mx_and (S 60 f) (bs (fun kk => btake (S 26 f) (S (31 + f) kk)) (S 29 f)))) q) (pw (10 : Int) (pop (mx_and (S 60 f) (bs (fun kk => btake (S 26 f) (S (31 + f) kk)) (S 29 f)))))))), none]) rfl rfl rfl rfl ?_
                refine r_lload (pc' := 114) rfl rfl rfl ?_
                refine r_lcon (pc' := 115) rfl rfl ?_
                refine r_lcmp (pc' := 116) rfl rfl (by omega) ?_
                have b21 := mx_cmp_b (gc (wam ((pop (S 60 f)) - m) (pop (mx_and (S 60 f) (bs (fun kk => btake (S 26 f) (S (31 + f) kk)) (S 29 f)))) q) (pw (10 : Int) (pop (mx_and (S 60 f) (bs (fun kk => btake (S 26 f) (S (31 + f) kk)) (S 29 f)))))) 0
                by_cases h22 : (gc (wam ((pop (S 60 f)) - m) (pop (mx_and (S 60 f) (bs (fun kk => btake (S 26 f) (S (31 + f) kk)) (S 29 f)))) q) (pw (10 : Int) (pop (mx_and (S 60 f) (bs (fun kk => btake (S 26 f) (S (31 + f) kk)) (S 29 f)))))) = 0
                · refine r_if_ne0 (pc' := 119) rfl rfl (by omega) (by omega) ?_
                  refine r_const (pc' := 120) rfl rfl ?_
                  refine q_iret rfl rfl rfl ?_
                  exact ⟨by unfold v_X10_odds; rw [if_pos h2, if_neg h3, if_neg h4, if_neg h5, if_neg h6, if_neg h7, if_neg h8, if_pos h22], rfl⟩
                · refine r_if_ne1 (pc' := 121) rfl rfl (by omega) (by omega) ?_
                  refine r_iload (pc' := 123) rfl rfl rfl ?_
                  by_cases h23 : t = 0
                  · refine r_if_ne0 (pc' := 126) rfl rfl (by omega) (by omega) ?_
                    refine r_lload (pc' := 128) rfl rfl rfl ?_
                    refine r_goto (pc' := 133) rfl rfl ?_
                    refine r_lload (pc' := 135) rfl rfl rfl ?_
                    refine r_ldiv (pc' := 136) rfl rfl (by omega) ?_
                    refine r_l2i (pc' := 137) rfl rfl ?_
                    refine q_iret rfl rfl rfl ?_
                    exact ⟨by unfold v_X10_odds; rw [if_pos h2, if_neg h3, if_neg h4, if_neg h5, if_neg h6, if_neg h7, if_neg h8, if_neg h22, if_pos h23], rfl⟩
                  · refine r_if_ne1 (pc' := 131) rfl rfl (by omega) (by omega) ?_
                    refine r_lload (pc' := 133) rfl rfl rfl ?_
                    refine r_lload (pc' := 135) rfl rfl rfl ?_
                    refine r_ldiv (pc' := 136) rfl rfl (by omega) ?_
                    refine r_l2i (pc' := 137) rfl rfl ?_
                    refine q_iret rfl rfl rfl ?_
                    exact ⟨by unfold v_X10_odds; rw [if_pos h2, if_neg h3, if_neg h4, if_neg h5, if_neg h6, if_neg h7, if_neg h8, if_neg h22, if_neg h23], rfl⟩
  · skip
    refine q_callE (pc' := 8) (w := some (.inl 0)) (S2 := S) (st' := [.inl 0]) rfl rfl rfl (bi_neg h2 (c_X3_hasField (f := f) (S := S) hB (show -2147483648 ≤ f ∧ f < 2147483648 from by omega))) (by decide) rfl rfl (Nat.le_of_ble_eq_true rfl) (fun _ _ => ⟨_, _, rfl, rfl⟩) rfl rfl ?_
    refine r_if_ne0 (pc' := 11) rfl rfl (by decide) (by decide) ?_
    refine r_const (pc' := 13) rfl rfl ?_
    refine q_iret rfl rfl rfl ?_
    exact ⟨by unfold v_X10_odds; rw [if_neg h2], rfl⟩
theorem c_X10_which {f : Int} {k : Int} {S : rS} (hB : Bd S) (h_f : -2147483648 ≤ f ∧ f < 2147483648) (h_k : -2147483648 ≤ k ∧ k < 2147483648) : CS 4 50 [.inr (.inr 0), .inl f, .inl k] S (fun r' S' => r' = some (.inl (if 0 ≤ f ∧ f < S 25 0 then if 0 ≤ k ∧ k ≤ 1 then wch S f k else -3 else -2)) ∧ S' = S) := by
  refine RS.beg (ls := [some (.inr (.inr 0)), some (.inl f), some (.inl k), none, none, none, none, none]) rfl rfl rfl rfl rfl ?_
  have b0 : 0 ≤ S 25 0 ∧ S 25 0 ≤ 7 := hB 25 0
  refine r_aload (pc' := 1) rfl rfl rfl ?_
  refine r_getr (pc' := 4) (v := 25) rfl rfl rfl rfl rfl ?_
  refine r_iload (pc' := 5) rfl rfl rfl ?_
  have b1 : 0 ≤ S 25 0 ∧ S 25 0 ≤ 7 := hB 25 0
  by_cases h2 : 0 ≤ f ∧ f < S 25 0
  · skip
    refine q_callE (pc' := 8) (w := some (.inl 1)) (S2 := S) (st' := [.inl 1]) rfl rfl rfl (bi_pos h2 (c_X3_hasField (f := f) (S := S) hB (show -2147483648 ≤ f ∧ f < 2147483648 from by omega))) (by decide) rfl rfl (Nat.le_of_ble_eq_true rfl) (fun _ _ => ⟨_, _, rfl, rfl⟩) rfl rfl ?_
    refine r_if_ne1 (pc' := 14) rfl rfl (by decide) (by decide) ?_
    refine r_iload (pc' := 15) rfl rfl rfl ?_
    by_cases h3 : k < 0
    · refine r_if_lt1 (pc' := 23) rfl rfl (by omega) (by omega) ?_
      refine r_const (pc' := 25) rfl rfl ?_
      refine q_iret rfl rfl rfl ?_
      exact ⟨by rw [if_pos h2, if_neg (by omega)], rfl⟩
    · refine r_if_lt0 (pc' := 18) rfl rfl (by omega) (by omega) ?_
      refine r_iload (pc' := 19) rfl rfl rfl ?_
      refine r_const (pc' := 20) rfl rfl ?_
      by_cases h4 : 1 < k
      · refine r_icmp_le0 (pc' := 23) rfl rfl (by omega) (by omega) ?_
        refine r_const (pc' := 25) rfl rfl ?_
        refine q_iret rfl rfl rfl ?_
        exact ⟨by rw [if_pos h2, if_neg (by omega)], rfl⟩
      · refine r_icmp_le1 (pc' := 26) rfl rfl (by omega) (by omega) ?_
        refine r_aload (pc' := 27) rfl rfl rfl ?_
        refine r_iload (pc' := 28) rfl rfl rfl ?_
        refine r_iload (pc' := 29) rfl rfl rfl ?_
        have b5 : 0 ≤ S 25 10 ∧ S 25 10 ≤ 8 := hB 25 10
        refine q_callE (pc' := 32) (w := some (.inl (bs (fun kk => fitw S kk f k) (S 25 10)))) (S2 := S) (st' := [.inl (bs (fun kk => fitw S kk f k) (S 25 10))]) rfl rfl rfl (c_X10_fittingWords (f := f) (wh := k) (S := S) hB (show 0 ≤ f ∧ f < 7 from by omega) (show -2147483648 ≤ k ∧ k < 2147483648 from by omega)) (by decide) rfl rfl (Nat.le_of_ble_eq_true rfl) (fun _ _ => ⟨_, _, rfl, rfl⟩) rfl rfl ?_
        have b6 : 0 ≤ (bs (fun kk => fitw S kk f k) (S 25 10)) ∧ (bs (fun kk => fitw S kk f k) (S 25 10)) < 256 := bs8 (hB 25 10)
        refine r_istore (pc' := 33) (ls' := [some (.inr (.inr 0)), some (.inl f), some (.inl k), some (.inl (bs (fun kk => fitw S kk f k) (S 25 10))), none, none, none, none]) rfl rfl rfl rfl ?_
        refine r_iload (pc' := 34) rfl rfl rfl ?_
        by_cases h7 : (bs (fun kk => fitw S kk f k) (S 25 10)) = 0
        · refine r_if_ne0 (pc' := 37) rfl rfl (by omega) (by omega) ?_
          refine r_const (pc' := 38) rfl rfl ?_
          refine q_iret rfl rfl rfl ?_
          exact ⟨by rw [if_pos h2, if_pos (by omega)]; unfold wch; rw [if_pos (show fitk S f k = 0 from h7)], rfl⟩
        · refine r_if_ne1 (pc' := 39) rfl rfl (by omega) (by omega) ?_
          refine r_const (pc' := 40) rfl rfl ?_
          refine r_istore (pc' := 42) (ls' := [some (.inr (.inr 0)), some (.inl f), some (.inl k), some (.inl (bs (fun kk => fitw S kk f k) (S 25 10))), some (.inl (-1)), none, none, none]) rfl rfl rfl rfl ?_
          refine r_const (pc' := 44) rfl rfl ?_
          refine r_istore (pc' := 46) (ls' := [some (.inr (.inr 0)), some (.inl f), some (.inl k), some (.inl (bs (fun kk => fitw S kk f k) (S 25 10))), some (.inl (-1)), some (.inl 9), none, none]) rfl rfl rfl rfl ?_
          refine r_const (pc' := 47) rfl rfl ?_
          refine r_istore (pc' := 49) (ls' := [some (.inr (.inr 0)), some (.inl f), some (.inl k), some (.inl (bs (fun kk => fitw S kk f k) (S 25 10))), some (.inl (-1)), some (.inl 9), some (.inl 0), none]) rfl rfl rfl rfl ?_
          have b29 : 0 ≤ S 29 f ∧ S 29 f ≤ 8 := hB 29 f
          refine r_while (α := Int × Int × Int) (fun z' => [some (.inr (.inr 0)), some (.inl f), some (.inl k), some (.inl (bs (fun kk => fitw S kk f k) (S 25 10))), some (.inl z'.1), some (.inl z'.2.1), some (.inl z'.2.2), none]) (fun z' => S) (fun z' => (0 ≤ z'.2.2 ∧ z'.2.2 ≤ S 29 f) ∧ ((-1 ≤ z'.1 ∧ z'.1 < 8) ∧ 0 ≤ z'.2.1 ∧ z'.2.1 ≤ 9) ∧ (fo (whs S (fitk S f k) f) (-1, 9) (z'.2.2).toNat = (z'.1, z'.2.1))) (fun z' => (S 29 f - z'.2.2).toNat) ?_ ((-1), 9, 0) (show (0 ≤ (0 : Int) ∧ (0 : Int) ≤ S 29 f) ∧ ((-1 ≤ (-1 : Int) ∧ (-1 : Int) < 8) ∧ 0 ≤ (9 : Int) ∧ (9 : Int) ≤ 9) ∧ (fo (whs S (fitk S f k) f) (-1, 9) (0 : Int).toNat = ((-1 : Int), (9 : Int))) from by exact ⟨by omega, by omega, rfl⟩)
          rintro ⟨b, z, p⟩ hI' ih49
          have hI' : (0 ≤ p ∧ p ≤ S 29 f) ∧ ((-1 ≤ b ∧ b < 8) ∧ 0 ≤ z ∧ z ≤ 9) ∧ (fo (whs S (fitk S f k) f) (-1, 9) p.toNat = (b, z)) := hI'
          obtain ⟨i1, i3, i2⟩ := hI'
          show RS _ _ _ _ [some (.inr (.inr 0)), some (.inl f), some (.inl k), some (.inl (bs (fun kk => fitw S kk f k) (S 25 10))), some (.inl b), some (.inl z), some (.inl p), none] [] S
          have b8 : 0 ≤ S 29 f ∧ S 29 f ≤ 8 := hB 29 f
          refine r_iload (pc' := 51) rfl rfl rfl ?_
          refine r_aload (pc' := 52) rfl rfl rfl ?_
          refine r_getr (pc' := 55) (v := 25) rfl rfl rfl rfl rfl ?_
          refine r_getr (pc' := 58) (v := 29) rfl rfl rfl rfl rfl ?_
          refine r_iload (pc' := 59) rfl rfl rfl ?_
          refine r_aldv (pc' := 60) (v := (S 29 f)) 7 rfl rfl rfl (by omega) rfl ?_
          by_cases h9 : p < (S 29 f)
          · refine r_icmp_ge0 (pc' := 63) rfl rfl (by omega) (by omega) ?_
            refine r_aload (pc' := 64) rfl rfl rfl ?_
            refine r_getr (pc' := 67) (v := 59) rfl rfl rfl rfl rfl ?_
            refine r_iload (pc' := 68) rfl rfl rfl ?_
            refine r_iload (pc' := 70) rfl rfl rfl ?_
            have b10 : 0 ≤ S 60 f ∧ S 60 f ≤ 255 := hB 60 f
            by_cases h11 : tb (S 60 f) p
            · skip
              refine q_callE (pc' := 73) (w := some (.inl 1)) (S2 := S) (st' := [.inl 1]) rfl rfl rfl (bi_pos h11 (c_X7_isLeft (f := f) (q := p) (S := S) hB (show 0 ≤ f ∧ f < 7 from by omega) (show 0 ≤ p ∧ p < 32 from by omega))) (by decide) rfl rfl (Nat.le_of_ble_eq_true rfl) (fun _ _ => ⟨_, _, rfl, rfl⟩) rfl rfl ?_
              refine r_if_eq0 (pc' := 76) rfl rfl (by decide) (by decide) ?_
              refine r_goto (pc' := 106) rfl rfl ?_
              refine r_iinc (pc' := 109) (ls' := [some (.inr (.inr 0)), some (.inl f), some (.inl k), some (.inl (bs (fun kk => fitw S kk f k) (S 25 10))), some (.inl b), some (.inl z), some (.inl (p + 1)), none]) rfl rfl rfl rfl rfl ?_
              refine r_goto (pc' := 49) rfl rfl ?_
              exact ih49 (b, z, (p + 1)) (show (0 ≤ (p + 1) ∧ (p + 1) ≤ S 29 f) ∧ ((-1 ≤ b ∧ b < 8) ∧ 0 ≤ z ∧ z ≤ 9) ∧ (fo (whs S (fitk S f k) f) (-1, 9) (p + 1).toNat = (b, z)) from by exact ⟨by omega, by omega, by rw [fo_s (by omega), i2]; exact if_pos h11⟩) (show (S 29 f - (p + 1)).toNat < (S 29 f - p).toNat from by omega)
            · skip
              refine q_callE (pc' := 73) (w := some (.inl 0)) (S2 := S) (st' := [.inl 0]) rfl rfl rfl (bi_neg h11 (c_X7_isLeft (f := f) (q := p) (S := S) hB (show 0 ≤ f ∧ f < 7 from by omega) (show 0 ≤ p ∧ p < 32 from by omega))) (by decide) rfl rfl (Nat.le_of_ble_eq_true rfl) (fun _ _ => ⟨_, _, rfl, rfl⟩) rfl rfl ?_
              refine r_if_eq1 (pc' := 79) rfl rfl (by decide) (by decide) ?_
              refine r_aload (pc' := 80) rfl rfl rfl ?_
              refine r_getr (pc' := 83) (v := 25) rfl rfl rfl rfl rfl ?_
              refine r_iload (pc' := 84) rfl rfl rfl ?_
              refine r_iload (pc' := 86) rfl rfl rfl ?_
              refine q_callE (pc' := 89) (w := some (.inl (mxs (fun kk => if tb (bs (fun kk => fitw S kk f k) (S 25 10)) kk then sm (fun jj => bi (tb (bs (fun kk => fitw S kk f k) (S 25 10)) jj ∧ S (43 + jj) p = S (43 + kk) p)) (S 25 10) else 0) (S 25 10)))) (S2 := S) (st' := [.inl (mxs (fun kk => if tb (bs (fun kk => fitw S kk f k) (S 25 10)) kk then sm (fun jj => bi (tb (bs (fun kk => fitw S kk f k) (S 25 10)) jj ∧ S (43 + jj) p = S (43 + kk) p)) (S 25 10) else 0) (S 25 10))]) rfl rfl rfl (c_X3_mostAlike (g := (bs (fun kk => fitw S kk f k) (S 25 10))) (q := p) (S := S) hB (show 0 ≤ (bs (fun kk => fitw S kk f k) (S 25 10)) ∧ (bs (fun kk => fitw S kk f k) (S 25 10)) < 256 from by omega) (show 0 ≤ p ∧ p < 8 from by omega)) (by decide) rfl rfl (Nat.le_of_ble_eq_true rfl) (fun _ _ => ⟨_, _, rfl, rfl⟩) rfl rfl ?_
              have b12 : 0 ≤ (mxs (fun kk => if tb (bs (fun kk => fitw S kk f k) (S 25 10)) kk then sm (fun jj => bi (tb (bs (fun kk => fitw S kk f k) (S 25 10)) jj ∧ S (43 + jj) p = S (43 + kk) p)) (S 25 10) else 0) (S 25 10)) ∧ (mxs (fun kk => if tb (bs (fun kk => fitw S kk f k) (S 25 10)) kk then sm (fun jj => bi (tb (bs (fun kk => fitw S kk f k) (S 25 10)) jj ∧ S (43 + jj) p = S (43 + kk) p)) (S 25 10) else 0) (S 25 10)) ≤ 8 := mal hB
              refine r_istore (pc' := 91) (ls' := [some (.inr (.inr 0)), some (.inl f), some (.inl k), some (.inl (bs (fun kk => fitw S kk f k) (S 25 10))), some (.inl b), some (.inl z), some (.inl p), some (.inl (mxs (fun kk => if tb (bs (fun kk => fitw S kk f k) (S 25 10)) kk then sm (fun jj => bi (tb (bs (fun kk => fitw S kk f k) (S 25 10)) jj ∧ S (43 + jj) p = S (43 + kk) p)) (S 25 10) else 0) (S 25 10)))]) rfl rfl rfl rfl ?_
              refine r_iload (pc' := 93) rfl rfl rfl ?_
              refine r_iload (pc' := 95) rfl rfl rfl ?_
              by_cases h13 : (mxs (fun kk => if tb (bs (fun kk => fitw S kk f k) (S 25 10)) kk then sm (fun jj => bi (tb (bs (fun kk => fitw S kk f k) (S 25 10)) jj ∧ S (43 + jj) p = S (43 + kk) p)) (S 25 10) else 0) (S 25 10)) < z
              · refine r_icmp_ge0 (pc' := 98) rfl rfl (by omega) (by omega) ?_
                refine r_iload (pc' := 100) rfl rfl rfl ?_
                refine r_istore (pc' := 102) (ls' := [some (.inr (.inr 0)), some (.inl f), some (.inl k), some (.inl (bs (fun kk => fitw S kk f k) (S 25 10))), some (.inl p), some (.inl z), some (.inl p), some (.inl (mxs (fun kk => if tb (bs (fun kk => fitw S kk f k) (S 25 10)) kk then sm (fun jj => bi (tb (bs (fun kk => fitw S kk f k) (S 25 10)) jj ∧ S (43 + jj) p = S (43 + kk) p)) (S 25 10) else 0) (S 25 10)))]) rfl rfl rfl rfl ?_
                refine r_iload (pc' := 104) rfl rfl rfl ?_
                refine r_istore (pc' := 106) (ls' := [some (.inr (.inr 0)), some (.inl f), some (.inl k), some (.inl (bs (fun kk => fitw S kk f k) (S 25 10))), some (.inl p), some (.inl (mxs (fun kk => if tb (bs (fun kk => fitw S kk f k) (S 25 10)) kk then sm (fun jj => bi (tb (bs (fun kk => fitw S kk f k) (S 25 10)) jj ∧ S (43 + jj) p = S (43 + kk) p)) (S 25 10) else 0) (S 25 10))), some (.inl p), some (.inl (mxs (fun kk => if tb (bs (fun kk => fitw S kk f k) (S 25 10)) kk then sm (fun jj => bi (tb (bs (fun kk => fitw S kk f k) (S 25 10)) jj ∧ S (43 + jj) p = S (43 + kk) p)) (S 25 10) else 0) (S 25 10)))]) rfl rfl rfl rfl ?_
                refine r_iinc (pc' := 109) (ls' := [some (.inr (.inr 0)), some (.inl f), some (.inl k), some (.inl (bs (fun kk => fitw S kk f k) (S 25 10))), some (.inl p), some (.inl (mxs (fun kk => if tb (bs (fun kk => fitw S kk f k) (S 25 10)) kk then sm (fun jj => bi (tb (bs (fun kk => fitw S kk f k) (S 25 10)) jj ∧ S (43 + jj) p = S (43 + kk) p)) (S 25 10) else 0) (S 25 10))), some (.inl (p + 1)), some (.inl (mxs (fun kk => if tb (bs (fun kk => fitw S kk f k) (S 25 10)) kk then sm (fun jj => bi (tb (bs (fun kk => fitw S kk f k) (S 25 10)) jj ∧ S (43 + jj) p = S (43 + kk) p)) (S 25 10) else 0) (S 25 10)))]) rfl rfl rfl rfl rfl ?_
                refine r_goto (pc' := 49) rfl rfl ?_
                refine r_forget [true, true, true, true, true, true, true, false] rfl ?_
                exact ih49 (p, (mxs (fun kk => if tb (bs (fun kk => fitw S kk f k) (S 25 10)) kk then sm (fun jj => bi (tb (bs (fun kk => fitw S kk f k) (S 25 10)) jj ∧ S (43 + jj) p = S (43 + kk) p)) (S 25 10) else 0) (S 25 10)), (p + 1)) (show (0 ≤ (p + 1) ∧ (p + 1) ≤ S 29 f) ∧ ((-1 ≤ p ∧ p < 8) ∧ 0 ≤ (mxs (fun kk => if tb (bs (fun kk => fitw S kk f k) (S 25 10)) kk then sm (fun jj => bi (tb (bs (fun kk => fitw S kk f k) (S 25 10)) jj ∧ S (43 + jj) p = S (43 + kk) p)) (S 25 10) else 0) (S 25 10)) ∧ (mxs (fun kk => if tb (bs (fun kk => fitw S kk f k) (S 25 10)) kk then sm (fun jj => bi (tb (bs (fun kk => fitw S kk f k) (S 25 10)) jj ∧ S (43 + jj) p = S (43 + kk) p)) (S 25 10) else 0) (S 25 10)) ≤ 9) ∧ (fo (whs S (fitk S f k) f) (-1, 9) (p + 1).toNat = (p, (mxs (fun kk => if tb (bs (fun kk => fitw S kk f k) (S 25 10)) kk then sm (fun jj => bi (tb (bs (fun kk => fitw S kk f k) (S 25 10)) jj ∧ S (43 + jj) p = S (43 + kk) p)) (S 25 10) else 0) (S 25 10)))) from by exact ⟨by omega, by omega, by rw [fo_s (by omega), i2]; exact (if_neg h11).trans (if_pos h13)⟩) (show (S 29 f - (p + 1)).toNat < (S 29 f - p).toNat from by omega)
              · refine r_icmp_ge1 (pc' := 106) rfl rfl (by omega) (by omega) ?_
                refine r_iinc (pc' := 109) (ls' := [some (.inr (.inr 0)), some (.inl f), some (.inl k), some (.inl (bs (fun kk => fitw S kk f k) (S 25 10))), some (.inl b), some (.inl z), some (.inl (p + 1)), some (.inl (mxs (fun kk => if tb (bs (fun kk => fitw S kk f k) (S 25 10)) kk then sm (fun jj => bi (tb (bs (fun kk => fitw S kk f k) (S 25 10)) jj ∧ S (43 + jj) p = S (43 + kk) p)) (S 25 10) else 0) (S 25 10)))]) rfl rfl rfl rfl rfl ?_
                refine r_goto (pc' := 49) rfl rfl ?_
                refine r_forget [true, true, true, true, true, true, true, false] rfl ?_
                exact ih49 (b, z, (p + 1)) (show (0 ≤ (p + 1) ∧ (p + 1) ≤ S 29 f) ∧ ((-1 ≤ b ∧ b < 8) ∧ 0 ≤ z ∧ z ≤ 9) ∧ (fo (whs S (fitk S f k) f) (-1, 9) (p + 1).toNat = (b, z)) from by exact ⟨by omega, by omega, by rw [fo_s (by omega), i2]; exact (if_neg h11).trans (if_neg h13)⟩) (show (S 29 f - (p + 1)).toNat < (S 29 f - p).toNat from by omega)
          · refine r_icmp_ge1 (pc' := 112) rfl rfl (by omega) (by omega) ?_
            refine r_iload (pc' := 114) rfl rfl rfl ?_
            refine q_iret rfl rfl rfl ?_
            have e : fo (whs S (fitk S f k) f) (-1, 9) (S 29 f).toNat = (b, z) := by rw [show (S 29 f).toNat = p.toNat by omega]; exact i2
            exact ⟨by rw [if_pos h2, if_pos (by omega)]; unfold wch; rw [if_neg (show ¬ fitk S f k = 0 from h7), e], rfl⟩
  · skip
    refine q_callE (pc' := 8) (w := some (.inl 0)) (S2 := S) (st' := [.inl 0]) rfl rfl rfl (bi_neg h2 (c_X3_hasField (f := f) (S := S) hB (show -2147483648 ≤ f ∧ f < 2147483648 from by omega))) (by decide) rfl rfl (Nat.le_of_ble_eq_true rfl) (fun _ _ => ⟨_, _, rfl, rfl⟩) rfl rfl ?_
    refine r_if_ne0 (pc' := 11) rfl rfl (by decide) (by decide) ?_
    refine r_const (pc' := 13) rfl rfl ?_
    refine q_iret rfl rfl rfl ?_
    exact ⟨by rw [if_neg h2], rfl⟩
theorem c_X10_least {t : Int} {S : rS} (hB : Bd S) (h_t : -2147483648 ≤ t ∧ t < 2147483648) : CS 2 36 [.inr (.inr 0), .inl t] S (fun r' S' => r' = some (.inl (if 0 ≤ t ∧ t < 4 then lsk S t else -2)) ∧ S' = S) := by
  refine RS.beg (ls := [some (.inr (.inr 0)), some (.inl t), none, none, none, none, none]) rfl rfl rfl rfl rfl ?_
  have b0 : 0 ≤ S 25 0 ∧ S 25 0 ≤ 7 := hB 25 0
  have b0 : 0 ≤ S 25 6 ∧ S 25 6 ≤ 9 := hB 25 6
  have b594 : 0 ≤ S 59 4 ∧ S 59 4 ≤ 6 := hB 59 4
  have b591 : 0 ≤ S 59 1 ∧ S 59 1 ≤ 127 := hB 59 1
  have b592 : 0 ≤ S 59 2 ∧ S 59 2 ≤ 99 := hB 59 2
  have b593 : 0 ≤ S 59 3 ∧ S 59 3 ≤ 999 := hB 59 3
  have b1 : 0 ≤ S 25 13 ∧ S 25 13 ≤ 99 := hB 25 13
  have b9 := sh9 b0
  have b70 : 0 ≤ S 25 0 ∧ S 25 0 ≤ 7 := hB 25 0
  refine r_iload (pc' := 1) rfl rfl rfl ?_
  by_cases h1 : t < 0
  · refine r_if_lt1 (pc' := 9) rfl rfl (by omega) (by omega) ?_
    refine r_const (pc' := 11) rfl rfl ?_
    refine q_iret rfl rfl rfl ?_
    exact ⟨by rw [if_neg (by omega)], rfl⟩
  · refine r_if_lt0 (pc' := 4) rfl rfl (by omega) (by omega) ?_
    refine r_iload (pc' := 5) rfl rfl rfl ?_
    refine r_const (pc' := 6) rfl rfl ?_
    by_cases h2 : t < 4
    · refine r_icmp_lt1 (pc' := 12) rfl rfl (by omega) (by omega) ?_
      refine r_aload (pc' := 13) rfl rfl rfl ?_
      refine r_getr (pc' := 16) (v := 25) rfl rfl rfl rfl rfl ?_
      refine r_iload (pc' := 17) rfl rfl rfl ?_
      have b3 : 0 ≤ S 25 0 ∧ S 25 0 ≤ 7 := hB 25 0
      refine q_callE (pc' := 20) (w := some (.inl (bs (fun kk => S 27 kk = t) (S 25 0)))) (S2 := S) (st' := [.inl (bs (fun kk => S 27 kk = t) (S 25 0))]) rfl rfl rfl (c_X3_fieldsOf (t := t) (S := S) hB (show -2147483648 ≤ t ∧ t < 2147483648 from by omega)) (by decide) rfl rfl (Nat.le_of_ble_eq_true rfl) (fun _ _ => ⟨_, _, rfl, rfl⟩) rfl rfl ?_
      have b4 : 0 ≤ (bs (fun kk => S 27 kk = t) (S 25 0)) ∧ (bs (fun kk => S 27 kk = t) (S 25 0)) < 128 := bs7 (hB 25 0)
      refine r_istore (pc' := 21) (ls' := [some (.inr (.inr 0)), some (.inl t), some (.inl (bs (fun kk => S 27 kk = t) (S 25 0))), none, none, none, none]) rfl rfl rfl rfl ?_
      refine r_iload (pc' := 22) rfl rfl rfl ?_
      by_cases h5 : (bs (fun kk => S 27 kk = t) (S 25 0)) = 0
      · refine r_if_ne0 (pc' := 25) rfl rfl (by omega) (by omega) ?_
        refine r_const (pc' := 26) rfl rfl ?_
        refine q_iret rfl rfl rfl ?_
        exact ⟨by rw [if_pos (by omega)]; unfold lsk; rw [if_pos (show (bs (fun kk => S 27 kk = t) (S 25 0)) = 0 from h5)], rfl⟩
      · refine r_if_ne1 (pc' := 27) rfl rfl (by omega) (by omega) ?_
        refine r_const (pc' := 28) rfl rfl ?_
        refine r_istore (pc' := 29) (ls' := [some (.inr (.inr 0)), some (.inl t), some (.inl (bs (fun kk => S 27 kk = t) (S 25 0))), some (.inl (-1)), none, none, none]) rfl rfl rfl rfl ?_
        refine r_const (pc' := 31) rfl rfl ?_
        refine r_istore (pc' := 33) (ls' := [some (.inr (.inr 0)), some (.inl t), some (.inl (bs (fun kk => S 27 kk = t) (S 25 0))), some (.inl (-1)), some (.inl 10), none, none]) rfl rfl rfl rfl ?_
        refine r_const (pc' := 34) rfl rfl ?_
        refine r_istore (pc' := 36) (ls' := [some (.inr (.inr 0)), some (.inl t), some (.inl (bs (fun kk => S 27 kk = t) (S 25 0))), some (.inl (-1)), some (.inl 10), some (.inl 0), none]) rfl rfl rfl rfl ?_
        refine r_while (α := Int × Int × Int) (fun z' => [some (.inr (.inr 0)), some (.inl t), some (.inl (bs (fun kk => S 27 kk = t) (S 25 0))), some (.inl z'.1), some (.inl z'.2.1), some (.inl z'.2.2), none]) (fun z' => S) (fun z' => (0 ≤ z'.2.2 ∧ z'.2.2 ≤ mx_shl 1 (S 25 6)) ∧ (0 ≤ z'.2.1 ∧ z'.2.1 ≤ 10) ∧ (fo (lss S (bs (fun kk => S 27 kk = t) (S 25 0))) (-1, 10) (z'.2.2).toNat = (z'.1, z'.2.1))) (fun z' => (mx_shl 1 (S 25 6) - z'.2.2).toNat) ?_ ((-1), 10, 0) (show (0 ≤ (0 : Int) ∧ (0 : Int) ≤ mx_shl 1 (S 25 6)) ∧ (0 ≤ (10 : Int) ∧ (10 : Int) ≤ 10) ∧ (fo (lss S (bs (fun kk => S 27 kk = t) (S 25 0))) (-1, 10) (0 : Int).toNat = ((-1 : Int), (10 : Int))) from by exact ⟨by omega, by omega, rfl⟩)
        rintro ⟨b, z, x⟩ hI' ih36
        have hI' : (0 ≤ x ∧ x ≤ mx_shl 1 (S 25 6)) ∧ (0 ≤ z ∧ z ≤ 10) ∧ (fo (lss S (bs (fun kk => S 27 kk = t) (S 25 0))) (-1, 10) x.toNat = (b, z)) := hI'
        obtain ⟨i1, i3, i2⟩ := hI'
        show RS _ _ _ _ [some (.inr (.inr 0)), some (.inl t), some (.inl (bs (fun kk => S 27 kk = t) (S 25 0))), some (.inl b), some (.inl z), some (.inl x), none] [] S
        have b6 : 0 ≤ S 25 6 ∧ S 25 6 ≤ 9 := hB 25 6
        refine r_iload (pc' := 38) rfl rfl rfl ?_
        refine r_const (pc' := 39) rfl rfl ?_
        refine r_aload (pc' := 40) rfl rfl rfl ?_
        refine r_getr (pc' := 43) (v := 25) rfl rfl rfl rfl rfl ?_
        refine r_getv (pc' := 46) (v := (S 25 6)) rfl rfl (Or.inl rfl) rfl rfl ?_
        refine r_ishl (pc' := 47) rfl rfl ?_
        have b7 := mx_shl_r 1 (S 25 6)
        by_cases h8 : x < (mx_shl 1 (S 25 6))
        · refine r_icmp_ge0 (pc' := 50) rfl rfl (by omega) (by omega) ?_
          refine r_iload (pc' := 52) rfl rfl rfl ?_
          refine q_callE (pc' := 55) (w := some (.inl (pop x))) (S2 := S) (st' := [.inl (pop x)]) rfl rfl rfl (c_J6_bitCount_0f7a4 (a := x) (S := S)  (show 0 ≤ x ∧ x < 512 from by omega)) (by decide) rfl rfl (Nat.le_of_ble_eq_true rfl) (fun q => absurd rfl q) rfl rfl ?_
          have b9 : 0 ≤ (pop x) ∧ (pop x) ≤ 9 := pop_r _
          refine r_istore (pc' := 57) (ls' := [some (.inr (.inr 0)), some (.inl t), some (.inl (bs (fun kk => S 27 kk = t) (S 25 0))), some (.inl b), some (.inl z), some (.inl x), some (.inl (pop x))]) rfl rfl rfl rfl ?_
          refine r_iload (pc' := 59) rfl rfl rfl ?_
          refine r_iload (pc' := 61) rfl rfl rfl ?_
          by_cases h10 : (pop x) < z
          · refine r_icmp_ge0 (pc' := 64) rfl rfl (by omega) (by omega) ?_
            refine r_aload (pc' := 65) rfl rfl rfl ?_
            refine r_getr (pc' := 68) (v := 25) rfl rfl rfl rfl rfl ?_
            refine r_iload (pc' := 70) rfl rfl rfl ?_
            refine r_aload (pc' := 71) rfl rfl rfl ?_
            refine r_getr (pc' := 74) (v := 59) rfl rfl rfl rfl rfl ?_
            refine r_getv (pc' := 77) (v := (S 59 4)) rfl rfl (Or.inl rfl) rfl rfl ?_
            have b11 : 0 ≤ S 59 4 ∧ S 59 4 ≤ 6 := hB 59 4
            refine q_callE (pc' := 80) (w := some (.inl (fo (fun _ xx => rgt S x xx) (mx_shl 1 (S 59 4)) (S 25 0 - 1).toNat))) (S2 := S) (st' := [.inl (fo (fun _ xx => rgt S x xx) (mx_shl 1 (S 59 4)) (S 25 0 - 1).toNat)]) rfl rfl rfl (c_X3_reachedBy (g := x) (a := (S 59 4)) (S := S) hB (show 0 ≤ x ∧ x < 512 from by omega) (show 0 ≤ (S 59 4) ∧ (S 59 4) < 7 from by omega)) (by decide) rfl rfl (Nat.le_of_ble_eq_true rfl) (fun _ _ => ⟨_, _, rfl, rfl⟩) rfl rfl ?_
            refine r_iload (pc' := 81) rfl rfl rfl ?_
            refine r_iand (pc' := 82) rfl rfl ?_
            have b12 := mx_and_r (fo (fun _ xx => rgt S x xx) (mx_shl 1 (S 59 4)) (S 25 0 - 1).toNat) (bs (fun kk => S 27 kk = t) (S 25 0))
            refine r_iload (pc' := 83) rfl rfl rfl ?_
            by_cases h13 : (mx_and (fo (fun _ xx => rgt S x xx) (mx_shl 1 (S 59 4)) (S 25 0 - 1).toNat) (bs (fun kk => S 27 kk = t) (S 25 0))) = (bs (fun kk => S 27 kk = t) (S 25 0))
            · refine r_icmp_ne0 (pc' := 86) rfl rfl (by omega) (by omega) ?_
              refine r_iload (pc' := 88) rfl rfl rfl ?_
              refine r_istore (pc' := 89) (ls' := [some (.inr (.inr 0)), some (.inl t), some (.inl (bs (fun kk => S 27 kk = t) (S 25 0))), some (.inl x), some (.inl z), some (.inl x), some (.inl (pop x))]) rfl rfl rfl rfl ?_
              refine r_iload (pc' := 91) rfl rfl rfl ?_
              refine r_istore (pc' := 93) (ls' := [some (.inr (.inr 0)), some (.inl t), some (.inl (bs (fun kk => S 27 kk = t) (S 25 0))), some (.inl x), some (.inl (pop x)), some (.inl x), some (.inl (pop x))]) rfl rfl rfl rfl ?_
              refine r_iinc (pc' := 96) (ls' := [some (.inr (.inr 0)), some (.inl t), some (.inl (bs (fun kk => S 27 kk = t) (S 25 0))), some (.inl x), some (.inl (pop x)), some (.inl (x + 1)), some (.inl (pop x))]) rfl rfl rfl rfl rfl ?_
              refine r_goto (pc' := 36) rfl rfl ?_
              refine r_forget [true, true, true, true, true, true, false] rfl ?_
              exact ih36 (x, (pop x), (x + 1)) (show (0 ≤ (x + 1) ∧ (x + 1) ≤ mx_shl 1 (S 25 6)) ∧ (0 ≤ (pop x) ∧ (pop x) ≤ 10) ∧ (fo (lss S (bs (fun kk => S 27 kk = t) (S 25 0))) (-1, 10) (x + 1).toNat = (x, (pop x))) from by exact ⟨by omega, by omega, by rw [fo_s (by omega), i2]; exact (if_pos h10).trans (if_pos h13)⟩) (show (mx_shl 1 (S 25 6) - (x + 1)).toNat < (mx_shl 1 (S 25 6) - x).toNat from by omega)
            · refine r_icmp_ne1 (pc' := 93) rfl rfl (by omega) (by omega) ?_
              refine r_iinc (pc' := 96) (ls' := [some (.inr (.inr 0)), some (.inl t), some (.inl (bs (fun kk => S 27 kk = t) (S 25 0))), some (.inl b), some (.inl z), some (.inl (x + 1)), some (.inl (pop x))]) rfl rfl rfl rfl rfl ?_
              refine r_goto (pc' := 36) rfl rfl ?_
              refine r_forget [true, true, true, true, true, true, false] rfl ?_
              exact ih36 (b, z, (x + 1)) (show (0 ≤ (x + 1) ∧ (x + 1) ≤ mx_shl 1 (S 25 6)) ∧ (0 ≤ z ∧ z ≤ 10) ∧ (fo (lss S (bs (fun kk => S 27 kk = t) (S 25 0))) (-1, 10) (x + 1).toNat = (b, z)) from by exact ⟨by omega, by omega, by rw [fo_s (by omega), i2]; exact (if_pos h10).trans (if_neg h13)⟩) (show (mx_shl 1 (S 25 6) - (x + 1)).toNat < (mx_shl 1 (S 25 6) - x).toNat from by omega)
          · refine r_icmp_ge1 (pc' := 93) rfl rfl (by omega) (by omega) ?_
            refine r_iinc (pc' := 96) (ls' := [some (.inr (.inr 0)), some (.inl t), some (.inl (bs (fun kk => S 27 kk = t) (S 25 0))), some (.inl b), some (.inl z), some (.inl (x + 1)), some (.inl (pop x))]) rfl rfl rfl rfl rfl ?_
            refine r_goto (pc' := 36) rfl rfl ?_
            refine r_forget [true, true, true, true, true, true, false] rfl ?_
            exact ih36 (b, z, (x + 1)) (show (0 ≤ (x + 1) ∧ (x + 1) ≤ mx_shl 1 (S 25 6)) ∧ (0 ≤ z ∧ z ≤ 10) ∧ (fo (lss S (bs (fun kk => S 27 kk = t) (S 25 0))) (-1, 10) (x + 1).toNat = (b, z)) from by exact ⟨by omega, by omega, by rw [fo_s (by omega), i2]; exact if_neg h10⟩) (show (mx_shl 1 (S 25 6) - (x + 1)).toNat < (mx_shl 1 (S 25 6) - x).toNat from by omega)
        · refine r_icmp_ge1 (pc' := 99) rfl rfl (by omega) (by omega) ?_
          refine r_iload (pc' := 100) rfl rfl rfl ?_
          refine q_iret rfl rfl rfl ?_
          have e : fo (lss S (bs (fun kk => S 27 kk = t) (S 25 0))) (-1, 10) (mx_shl 1 (S 25 6)).toNat = (b, z) := by rw [show (mx_shl 1 (S 25 6)).toNat = x.toNat by omega]; exact i2
          exact ⟨by rw [if_pos (by omega)]; unfold lsk; rw [if_neg (show ¬ (bs (fun kk => S 27 kk = t) (S 25 0)) = 0 from h5), e], rfl⟩
    · refine r_icmp_lt0 (pc' := 9) rfl rfl (by omega) (by omega) ?_
      refine r_const (pc' := 11) rfl rfl ?_
      refine q_iret rfl rfl rfl ?_
      exact ⟨by rw [if_neg (by omega)], rfl⟩
def opn (S : rS) (k : Int) : Prop := 0 < pop (S 60 k) ∧ ¬ tb (S 59 1) k ∧ (S 26 k ≠ 1 ∨ S 59 5 < 5)
noncomputable def wgh (S : rS) (f : Int) : rS := mx_up (fl (fl S 87 (fun kk => pop (S 60 kk)) f) 88 (fun kk => mins (S 26 kk) (pop (S 60 kk))) f) 85 3 (bs (opn S) f)
theorem wg_o {S : rS} {f a j : Int} (h : ¬ (a = 85 ∧ j = 3 ∨ a = 87 ∨ a = 88)) : wgh S f a j = S a j := by
  unfold wgh; rw [up_ne (by omega), fl_o (by omega), fl_o (by omega)]
theorem Bd_wgh {S : rS} (hB : Bd S) {f : Int} (hf : 0 ≤ f ∧ f ≤ 7) : Bd (wgh S f) := by
  have q := bs7 (p := opn S) hf
  unfold wgh
  exact Bd_up (Bd_fl (Bd_fl hB (fun k _ _ => ⟨(pop_r (S 60 k)).1, pop_8 (hB 60 k)⟩)) (fun k _ _ => mins34 (hB 60 k))) (show (0 : Int) ≤ _ by omega) (show _ ≤ (127 : Int) by omega)
theorem wg_1 {S : rS} {f o : Int} (hf : 0 ≤ f) : mx_up (mx_up (mx_up (fl (fl S 87 (fun kk => pop (S 60 kk)) f) 88 (fun kk => mins (S 26 kk) (pop (S 60 kk))) f) 85 3 o) 87 f (pop (S 60 f))) 88 f (mins (S 26 f) (pop (S 60 f))) = mx_up (fl (fl S 87 (fun kk => pop (S 60 kk)) (f + 1)) 88 (fun kk => mins (S 26 kk) (pop (S 60 kk))) (f + 1)) 85 3 o := by
  rw [up_comm (a := 85) (b := 87) (by omega), up_comm (a := 85) (b := 88) (by omega), up_fl (by omega), fl_s hf rfl, fl_s hf rfl]
theorem wg_t {S : rS} {f : Int} (hf : 0 ≤ f) (h : opn S f) : mx_up (mx_up (mx_up (wgh S f) 87 f (pop (S 60 f))) 88 f (mins (S 26 f) (pop (S 60 f)))) 85 3 (mx_or (bs (opn S) f) (mx_shl 1 f)) = wgh S (f + 1) := by
  unfold wgh
  rw [wg_1 hf, up_up, bs_t hf h]
theorem wg_f {S : rS} {f : Int} (hf : 0 ≤ f) (h : ¬ opn S f) : mx_up (mx_up (wgh S f) 87 f (pop (S 60 f))) 88 f (mins (S 26 f) (pop (S 60 f))) = wgh S (f + 1) := by
  unfold wgh
  rw [wg_1 hf, bs_f hf h]
theorem wg_0 {S : rS} : mx_up S 85 3 0 = wgh S 0 := by
  unfold wgh; rw [← fl_0, ← fl_0]; rfl
theorem c_X9_weighFields {S : rS} (hB : Bd S) : CS 3 192 [.inr (.inr 85), .inr (.inr 25), .inr (.inr 59)] S (fun r' S' => r' = none ∧ S' = wgh S (S 25 0)) := by
  refine RS.beg (ls := [some (.inr (.inr 85)), some (.inr (.inr 25)), some (.inr (.inr 59)), none]) rfl rfl rfl rfl rfl ?_
  have b0 : 0 ≤ S 25 0 ∧ S 25 0 ≤ 7 := hB 25 0
  refine r_aload (pc' := 1) rfl rfl rfl ?_
  refine r_const (pc' := 2) rfl rfl ?_
  refine r_put (pc' := 5) rfl rfl rfl rfl ?_
  refine r_const (pc' := 6) rfl rfl ?_
  refine r_istore (pc' := 7) (ls' := [some (.inr (.inr 85)), some (.inr (.inr 25)), some (.inr (.inr 59)), some (.inl 0)]) rfl rfl rfl rfl ?_
  refine r_mem (show mx_up S 85 3 0 = wgh S (0 : Int) from by exact wg_0) ?_
  refine r_while (α := Int) (fun z' => [some (.inr (.inr 85)), some (.inr (.inr 25)), some (.inr (.inr 59)), some (.inl z')]) (fun z' => wgh S z') (fun z' => (0 ≤ z' ∧ z' ≤ S 25 0)) (fun z' => (S 25 0 - z').toNat) ?_ 0 (show (0 ≤ (0 : Int) ∧ (0 : Int) ≤ S 25 0) from by omega)
  rintro f hI' ih7
  have hI' : (0 ≤ f ∧ f ≤ S 25 0) := hI'
  have i1 := hI'
  show RS _ _ _ _ [some (.inr (.inr 85)), some (.inr (.inr 25)), some (.inr (.inr 59)), some (.inl f)] [] (wgh S f)
  have bs7f := bs7 (p := opn S) (show 0 ≤ f ∧ f ≤ 7 by omega)
  have b1 : 0 ≤ S 25 0 ∧ S 25 0 ≤ 7 := hB 25 0
  have hB2 : Bd (wgh S f) := by exact Bd_wgh hB (by omega)
  refine r_iload (pc' := 8) rfl rfl rfl ?_
  refine r_aload (pc' := 9) rfl rfl rfl ?_
  refine r_getv (pc' := 12) (v := (S 25 0)) rfl rfl (Or.inl rfl) rfl (wg_o (by omega)) ?_
  by_cases h3 : f < (S 25 0)
  · refine r_icmp_ge0 (pc' := 15) rfl rfl (by omega) (by omega) ?_
    refine r_aload (pc' := 16) rfl rfl rfl ?_
    refine r_getr (pc' := 19) (v := 87) rfl rfl rfl rfl rfl ?_
    refine r_iload (pc' := 20) rfl rfl rfl ?_
    refine r_aload (pc' := 21) rfl rfl rfl ?_
    refine r_getr (pc' := 24) (v := 60) rfl rfl rfl rfl rfl ?_
    refine r_iload (pc' := 25) rfl rfl rfl ?_
    refine r_aldv (pc' := 26) (v := (S 60 f)) 7 rfl rfl rfl (by omega) (wg_o (by omega)) ?_
    have b4 : 0 ≤ S 60 f ∧ S 60 f ≤ 255 := hB 60 f
    refine q_callE (pc' := 29) (w := some (.inl (pop (S 60 f)))) (S2 := (wgh S f)) (st' := [.inl (pop (S 60 f)), .inl f, .inr (.inr 87)]) rfl rfl rfl (c_J6_bitCount_0f7a4 (a := (S 60 f)) (S := (wgh S f))  (show 0 ≤ (S 60 f) ∧ (S 60 f) < 512 from by omega)) (by decide) rfl rfl (Nat.le_of_ble_eq_true rfl) (fun q => absurd rfl q) rfl rfl ?_
    have b5 : 0 ≤ (pop (S 60 f)) ∧ (pop (S 60 f)) ≤ 9 := pop_r _
    have p8 := pop_8 (a := S 60 f) (hB 60 f)
    refine r_ast (pc' := 30) 7 rfl rfl rfl (by omega) ?_
    refine r_aload (pc' := 31) rfl rfl rfl ?_
    refine r_getr (pc' := 34) (v := 88) rfl rfl rfl rfl rfl ?_
    refine r_iload (pc' := 35) rfl rfl rfl ?_
    refine r_aload (pc' := 36) rfl rfl rfl ?_
    refine r_aload (pc' := 37) rfl rfl rfl ?_
    refine r_iload (pc' := 38) rfl rfl rfl ?_
    refine q_callE (pc' := 41) (w := some (.inl (mins ((mx_up (wgh S f) 87 f (pop (S 60 f))) 26 f) (pop ((mx_up (wgh S f) 87 f (pop (S 60 f))) 60 f))))) (S2 := mx_up (wgh S f) 87 f (pop (S 60 f))) (st' := [.inl (mins ((mx_up (wgh S f) 87 f (pop (S 60 f))) 26 f) (pop ((mx_up (wgh S f) 87 f (pop (S 60 f))) 60 f))), .inl f, .inr (.inr 88)]) rfl rfl rfl (c_X7_readingMinutes (f := f) (S := mx_up (wgh S f) 87 f (pop (S 60 f))) (Bd_up hB2 (show (0 : Int) ≤ (pop (S 60 f)) from by omega) (show (pop (S 60 f)) ≤ (8 : Int) from by omega)) (show 0 ≤ f ∧ f < 7 from by omega)) (by decide) rfl rfl (Nat.le_of_ble_eq_true rfl) (fun _ _ => ⟨_, _, rfl, rfl⟩) rfl rfl ?_
    have b6 : 0 ≤ (mins ((mx_up (wgh S f) 87 f (pop (S 60 f))) 26 f) (pop ((mx_up (wgh S f) 87 f (pop (S 60 f))) 60 f))) ∧ (mins ((mx_up (wgh S f) 87 f (pop (S 60 f))) 26 f) (pop ((mx_up (wgh S f) 87 f (pop (S 60 f))) 60 f))) ≤ 38 := by have q1 := mins_r (k := (mx_up (wgh S f) 87 f (pop (S 60 f))) 26 f) (pop_r ((mx_up (wgh S f) 87 f (pop (S 60 f))) 60 f)).1; have q2 := pop_r ((mx_up (wgh S f) 87 f (pop (S 60 f))) 60 f); omega
    have m34 : 0 ≤ (mins ((mx_up (wgh S f) 87 f (pop (S 60 f))) 26 f) (pop ((mx_up (wgh S f) 87 f (pop (S 60 f))) 60 f))) ∧ (mins ((mx_up (wgh S f) 87 f (pop (S 60 f))) 26 f) (pop ((mx_up (wgh S f) 87 f (pop (S 60 f))) 60 f))) ≤ 34 := mins34 (show 0 ≤ S 60 f ∧ S 60 f ≤ 255 from hB 60 f)
    have p8 := pop_8 (a := S 60 f) (hB 60 f)
    refine r_ast (pc' := 42) 7 rfl rfl rfl (by omega) ?_
    refine r_aload (pc' := 43) rfl rfl rfl ?_
    refine r_getr (pc' := 46) (v := 87) rfl rfl rfl rfl rfl ?_
    refine r_iload (pc' := 47) rfl rfl rfl ?_
    refine r_aldv (pc' := 48) (v := (pop (S 60 f))) 7 rfl rfl rfl (by omega) ((up_ne (by omega)).trans (by first | rfl | exact up_eq)) ?_
    by_cases h7 : 0 < (pop (S 60 f))
    · refine r_if_le0 (pc' := 51) rfl rfl (by omega) (by omega) ?_
      refine r_aload (pc' := 52) rfl rfl rfl ?_
      refine r_iload (pc' := 53) rfl rfl rfl ?_
      by_cases h8 : tb ((mx_up (mx_up (wgh S f) 87 f (pop (S 60 f))) 88 f (mins ((mx_up (wgh S f) 87 f (pop (S 60 f))) 26 f) (pop ((mx_up (wgh S f) 87 f (pop (S 60 f))) 60 f)))) 59 1) f
      · skip
        refine q_callE (pc' := 56) (w := some (.inl 1)) (S2 := mx_up (mx_up (wgh S f) 87 f (pop (S 60 f))) 88 f (mins ((mx_up (wgh S f) 87 f (pop (S 60 f))) 26 f) (pop ((mx_up (wgh S f) 87 f (pop (S 60 f))) 60 f)))) (st' := [.inl 1]) rfl rfl rfl (bi_pos h8 (c_X7_isRead (f := f) (S := mx_up (mx_up (wgh S f) 87 f (pop (S 60 f))) 88 f (mins ((mx_up (wgh S f) 87 f (pop (S 60 f))) 26 f) (pop ((mx_up (wgh S f) 87 f (pop (S 60 f))) 60 f)))) (Bd_up (Bd_up hB2 (show (0 : Int) ≤ (pop (S 60 f)) from by omega) (show (pop (S 60 f)) ≤ (8 : Int) from by omega)) (show (0 : Int) ≤ (mins ((mx_up (wgh S f) 87 f (pop (S 60 f))) 26 f) (pop ((mx_up (wgh S f) 87 f (pop (S 60 f))) 60 f))) from by omega) (show (mins ((mx_up (wgh S f) 87 f (pop (S 60 f))) 26 f) (pop ((mx_up (wgh S f) 87 f (pop (S 60 f))) 60 f))) ≤ (34 : Int) from by omega)) (show 0 ≤ f ∧ f < 32 from by omega))) (by decide) rfl rfl (Nat.le_of_ble_eq_true rfl) (fun _ _ => ⟨_, _, rfl, rfl⟩) rfl rfl ?_
        refine r_if_ne1 (pc' := 80) rfl rfl (by decide) (by decide) ?_
        refine r_iinc (pc' := 83) (ls' := [some (.inr (.inr 85)), some (.inr (.inr 25)), some (.inr (.inr 59)), some (.inl (f + 1))]) rfl rfl rfl rfl rfl ?_
        refine r_goto (pc' := 7) rfl rfl ?_
        refine r_mem (show mx_up (mx_up (wgh S f) 87 f (pop (S 60 f))) 88 f (mins ((mx_up (wgh S f) 87 f (pop (S 60 f))) 26 f) (pop ((mx_up (wgh S f) 87 f (pop (S 60 f))) 60 f))) = wgh S (f + 1) from by exact wg_f (by omega) (fun q => q.2.1 h8)) ?_
        exact ih7 (f + 1) (show (0 ≤ (f + 1) ∧ (f + 1) ≤ S 25 0) from by omega) (show (S 25 0 - (f + 1)).toNat < (S 25 0 - f).toNat from by omega)
      · skip
        refine q_callE (pc' := 56) (w := some (.inl 0)) (S2 := mx_up (mx_up (wgh S f) 87 f (pop (S 60 f))) 88 f (mins ((mx_up (wgh S f) 87 f (pop (S 60 f))) 26 f) (pop ((mx_up (wgh S f) 87 f (pop (S 60 f))) 60 f)))) (st' := [.inl 0]) rfl rfl rfl (bi_neg h8 (c_X7_isRead (f := f) (S := mx_up (mx_up (wgh S f) 87 f (pop (S 60 f))) 88 f (mins ((mx_up (wgh S f) 87 f (pop (S 60 f))) 26 f) (pop ((mx_up (wgh S f) 87 f (pop (S 60 f))) 60 f)))) (Bd_up (Bd_up hB2 (show (0 : Int) ≤ (pop (S 60 f)) from by omega) (show (pop (S 60 f)) ≤ (8 : Int) from by omega)) (show (0 : Int) ≤ (mins ((mx_up (wgh S f) 87 f (pop (S 60 f))) 26 f) (pop ((mx_up (wgh S f) 87 f (pop (S 60 f))) 60 f))) from by omega) (show (mins ((mx_up (wgh S f) 87 f (pop (S 60 f))) 26 f) (pop ((mx_up (wgh S f) 87 f (pop (S 60 f))) 60 f))) ≤ (34 : Int) from by omega)) (show 0 ≤ f ∧ f < 32 from by omega))) (by decide) rfl rfl (Nat.le_of_ble_eq_true rfl) (fun _ _ => ⟨_, _, rfl, rfl⟩) rfl rfl ?_
        refine r_if_ne0 (pc' := 59) rfl rfl (by decide) (by decide) ?_
        refine r_aload (pc' := 60) rfl rfl rfl ?_
        refine r_aload (pc' := 61) rfl rfl rfl ?_
        refine r_iload (pc' := 62) rfl rfl rfl ?_
        by_cases h9 : (mx_up (mx_up (wgh S f) 87 f (pop (S 60 f))) 88 f (mins ((mx_up (wgh S f) 87 f (pop (S 60 f))) 26 f) (pop ((mx_up (wgh S f) 87 f (pop (S 60 f))) 60 f)))) 26 f ≠ 1 ∨ (mx_up (mx_up (wgh S f) 87 f (pop (S 60 f))) 88 f (mins ((mx_up (wgh S f) 87 f (pop (S 60 f))) 26 f) (pop ((mx_up (wgh S f) 87 f (pop (S 60 f))) 60 f)))) 59 5 < 5
        · skip
          refine q_callE (pc' := 65) (w := some (.inl 1)) (S2 := mx_up (mx_up (wgh S f) 87 f (pop (S 60 f))) 88 f (mins ((mx_up (wgh S f) 87 f (pop (S 60 f))) 26 f) (pop ((mx_up (wgh S f) 87 f (pop (S 60 f))) 60 f)))) (st' := [.inl 1]) rfl rfl rfl (bi_pos h9 (c_X7_canBeRead (f := f) (S := mx_up (mx_up (wgh S f) 87 f (pop (S 60 f))) 88 f (mins ((mx_up (wgh S f) 87 f (pop (S 60 f))) 26 f) (pop ((mx_up (wgh S f) 87 f (pop (S 60 f))) 60 f)))) (Bd_up (Bd_up hB2 (show (0 : Int) ≤ (pop (S 60 f)) from by omega) (show (pop (S 60 f)) ≤ (8 : Int) from by omega)) (show (0 : Int) ≤ (mins ((mx_up (wgh S f) 87 f (pop (S 60 f))) 26 f) (pop ((mx_up (wgh S f) 87 f (pop (S 60 f))) 60 f))) from by omega) (show (mins ((mx_up (wgh S f) 87 f (pop (S 60 f))) 26 f) (pop ((mx_up (wgh S f) 87 f (pop (S 60 f))) 60 f))) ≤ (34 : Int) from by omega)) (show 0 ≤ f ∧ f < 7 from by omega))) (by decide) rfl rfl (Nat.le_of_ble_eq_true rfl) (fun _ _ => ⟨_, _, rfl, rfl⟩) rfl rfl ?_
          refine r_if_eq0 (pc' := 68) rfl rfl (by decide) (by decide) ?_
          refine r_aload (pc' := 69) rfl rfl rfl ?_
          refine r_dupr (pc' := 70) rfl rfl ?_
          refine r_getv (pc' := 73) (v := (bs (opn S) f)) rfl rfl (Or.inl rfl) rfl ((up_ne (by omega)).trans ((up_ne (by omega)).trans up_eq)) ?_
          refine r_const (pc' := 74) rfl rfl ?_
          refine r_iload (pc' := 75) rfl rfl rfl ?_
          refine r_ishl (pc' := 76) rfl rfl ?_
          have b10 := mx_shl_r 1 f
          have e11 := shl_u (k := f) 7 (by omega) (by omega)
          refine r_ior (pc' := 77) rfl rfl ?_
          have b12 := mx_or_r (bs (opn S) f) (mx_shl 1 f)
          have e13 := or_u (a := bs (opn S) f) (b := (mx_shl 1 f)) 7 (by omega) bs7f (by omega) (by omega) (by omega)
          refine r_put (pc' := 80) rfl rfl rfl rfl ?_
          refine r_iinc (pc' := 83) (ls' := [some (.inr (.inr 85)), some (.inr (.inr 25)), some (.inr (.inr 59)), some (.inl (f + 1))]) rfl rfl rfl rfl rfl ?_
          refine r_goto (pc' := 7) rfl rfl ?_
          refine r_mem (show mx_up (mx_up (mx_up (wgh S f) 87 f (pop (S 60 f))) 88 f (mins ((mx_up (wgh S f) 87 f (pop (S 60 f))) 26 f) (pop ((mx_up (wgh S f) 87 f (pop (S 60 f))) 60 f)))) 85 3 (mx_or (bs (opn S) f) (mx_shl 1 f)) = wgh S (f + 1) from by exact wg_t (by omega) ⟨h7, h8, h9⟩) ?_
          exact ih7 (f + 1) (show (0 ≤ (f + 1) ∧ (f + 1) ≤ S 25 0) from by omega) (show (S 25 0 - (f + 1)).toNat < (S 25 0 - f).toNat from by omega)
        · skip
          refine q_callE (pc' := 65) (w := some (.inl 0)) (S2 := mx_up (mx_up (wgh S f) 87 f (pop (S 60 f))) 88 f (mins ((mx_up (wgh S f) 87 f (pop (S 60 f))) 26 f) (pop ((mx_up (wgh S f) 87 f (pop (S 60 f))) 60 f)))) (st' := [.inl 0]) rfl rfl rfl (bi_neg h9 (c_X7_canBeRead (f := f) (S := mx_up (mx_up (wgh S f) 87 f (pop (S 60 f))) 88 f (mins ((mx_up (wgh S f) 87 f (pop (S 60 f))) 26 f) (pop ((mx_up (wgh S f) 87 f (pop (S 60 f))) 60 f)))) (Bd_up (Bd_up hB2 (show (0 : Int) ≤ (pop (S 60 f)) from by omega) (show (pop (S 60 f)) ≤ (8 : Int) from by omega)) (show (0 : Int) ≤ (mins ((mx_up (wgh S f) 87 f (pop (S 60 f))) 26 f) (pop ((mx_up (wgh S f) 87 f (pop (S 60 f))) 60 f))) from by omega) (show (mins ((mx_up (wgh S f) 87 f (pop (S 60 f))) 26 f) (pop ((mx_up (wgh S f) 87 f (pop (S 60 f))) 60 f))) ≤ (34 : Int) from by omega)) (show 0 ≤ f ∧ f < 7 from by omega))) (by decide) rfl rfl (Nat.le_of_ble_eq_true rfl) (fun _ _ => ⟨_, _, rfl, rfl⟩) rfl rfl ?_
          refine r_if_eq1 (pc' := 80) rfl rfl (by decide) (by decide) ?_
          refine r_iinc (pc' := 83) (ls' := [some (.inr (.inr 85)), some (.inr (.inr 25)), some (.inr (.inr 59)), some (.inl (f + 1))]) rfl rfl rfl rfl rfl ?_
          refine r_goto (pc' := 7) rfl rfl ?_
          refine r_mem (show mx_up (mx_up (wgh S f) 87 f (pop (S 60 f))) 88 f (mins ((mx_up (wgh S f) 87 f (pop (S 60 f))) 26 f) (pop ((mx_up (wgh S f) 87 f (pop (S 60 f))) 60 f))) = wgh S (f + 1) from by exact wg_f (by omega) (fun q => h9 q.2.2)) ?_
          exact ih7 (f + 1) (show (0 ≤ (f + 1) ∧ (f + 1) ≤ S 25 0) from by omega) (show (S 25 0 - (f + 1)).toNat < (S 25 0 - f).toNat from by omega)
    · refine r_if_le1 (pc' := 80) rfl rfl (by omega) (by omega) ?_
      refine r_iinc (pc' := 83) (ls' := [some (.inr (.inr 85)), some (.inr (.inr 25)), some (.inr (.inr 59)), some (.inl (f + 1))]) rfl rfl rfl rfl rfl ?_
      refine r_goto (pc' := 7) rfl rfl ?_
      refine r_mem (show mx_up (mx_up (wgh S f) 87 f (pop (S 60 f))) 88 f (mins ((mx_up (wgh S f) 87 f (pop (S 60 f))) 26 f) (pop ((mx_up (wgh S f) 87 f (pop (S 60 f))) 60 f))) = wgh S (f + 1) from by exact wg_f (by omega) (fun q => absurd q.1 h7)) ?_
      exact ih7 (f + 1) (show (0 ≤ (f + 1) ∧ (f + 1) ≤ S 25 0) from by omega) (show (S 25 0 - (f + 1)).toNat < (S 25 0 - f).toNat from by omega)
  · refine r_icmp_ge1 (pc' := 86) rfl rfl (by omega) (by omega) ?_
    refine q_vret rfl rfl rfl ?_
    obtain rfl : f = S 25 0 := by omega
    exact ⟨rfl, rfl⟩
