/-! THE CONSTRUCTORS -/
def SHk (n : Nat) : List (Nat × Nat) := mx_SH.take n
theorem SHk_l {n : Nat} (h : n ≤ 249) : (SHk n).length = n := by
  unfold SHk
  rw [List.length_take, show mx_SH.length = 249 by decide +kernel]
  omega
theorem shp_k {n a c s : Nat} {RF S : Int → Int → Int} {v : Nat × Nat} (h : (SHk n).getD a (99, 0) = v) : mx_shp (SHk n, RF, S, c, s) ((a : Nat) : Int) = v := h
def ZZ (w : Int → Int → Int) : Int → Int → Int := fun a j => if 0 ≤ a then 0 else w a j
def Z6 (w : Int → Int → Int) : Int → Int → Int := mx_up (ZZ w) ((25 : Nat) : Int) 13 60
def Z7 (w : Int → Int → Int) : Int → Int → Int := mx_up (Z6 w) ((233 : Nat) : Int) 186 60
theorem zr_Z {w : Int → Int → Int} {k : Nat} (h : 0 ≤ k) : mx_zr (ZZ w) k 0 = ZZ w := funext fun a => funext fun j => by
  unfold mx_zr ZZ
  by_cases c : (k : Int) ≤ a
  · rw [if_pos c, if_pos (by omega)]
  · rw [if_neg c]
theorem zr_6 {w : Int → Int → Int} {k : Nat} (h : 25 < k) : mx_zr (Z6 w) k 0 = Z6 w := funext fun a => funext fun j => by
  unfold mx_zr
  by_cases c : (k : Int) ≤ a
  · rw [if_pos c]; unfold Z6; rw [up_ne (by omega)]; unfold ZZ; rw [if_pos (by omega)]
  · rw [if_neg c]
def Rf0 : Int → Int → Int := fun _ _ => -1
theorem k_State {sh : List (Nat × Nat)} {RF S : Int → Int → Int} {a k : Nat} (hl : sh.length = k) (ha : sh.getD a (99, 0) = (5, 0)) (hz : mx_zr S k 0 = S) : mx_call 1 170 [.inr (.inr (a : Int))] (sh, RF, S, 1, 7) (fun v m' => v = none ∧ m' = (sh ++ [(100, 7)], mx_up (mx_zr RF k (-1)) (a : Int) 0 (k : Int), S, 0, 0)) := by
  refine GR.beg (ls := [some (.inr (.inr (a : Int)))]) rfl rfl rfl rfl rfl ?_
  refine g_aload (pc' := 1) rfl rfl rfl ?_
  refine g_obj (pc' := 4) rfl rfl ⟨by omega, by decide⟩ ?_
  refine g_aload (pc' := 5) rfl rfl rfl ?_
  refine g_const (pc' := 7) rfl rfl ?_
  refine g_newi (j := 7) (pc' := 9) (k := k) rfl rfl rfl hl hz rfl rfl rfl ?_
  refine g_putr (pc' := 12) rfl rfl rfl (getD_app ha (by decide)) (by omega) ?_
  exact g_ret rfl rfl rfl ⟨rfl, rfl⟩
theorem k_Shelf {sh : List (Nat × Nat)} {RF S : Int → Int → Int} {a k : Nat} (hl : sh.length = k) (ha : sh.getD a (99, 0) = (3, 0)) (hz : mx_zr S k 0 = S) : mx_call 1 162 [.inr (.inr (a : Int))] (sh, RF, S, 1, 24) (fun v m' => v = none ∧ m' = (sh ++ [(100, 24)], mx_up (mx_zr RF k (-1)) (a : Int) 3 (k : Int), S, 0, 0)) := by
  refine GR.beg (ls := [some (.inr (.inr (a : Int)))]) rfl rfl rfl rfl rfl ?_
  refine g_aload (pc' := 1) rfl rfl rfl ?_
  refine g_obj (pc' := 4) rfl rfl ⟨by omega, by decide⟩ ?_
  refine g_aload (pc' := 5) rfl rfl rfl ?_
  refine g_const (pc' := 7) rfl rfl ?_
  refine g_newi (j := 24) (pc' := 9) (k := k) rfl rfl rfl hl hz rfl rfl rfl ?_
  refine g_putr (pc' := 12) rfl rfl rfl (getD_app ha (by decide)) (by omega) ?_
  exact g_ret rfl rfl rfl ⟨rfl, rfl⟩
def Rf1 : Int → Int → Int := mx_zr Rf0 0 (-1)
def Rf2 : Int → Int → Int := mx_zr (Rf1) 1 (-1)
def Rf3 : Int → Int → Int := mx_up (mx_zr (Rf2) 2 (-1)) ((1 : Nat) : Int) 0 ((2 : Nat) : Int)
theorem k_X8_init {w : Int → Int → Int} : mx_call 1 177 [.inr (.inr ((1 : Nat) : Int))] (SHk 2, Rf2, ZZ w, 1, 200) (fun v m' => v = none ∧ m' = (SHk 3, Rf3, ZZ w, 0, 0)) := by
  refine GR.beg (ls := [some (.inr (.inr ((1 : Nat) : Int)))]) rfl rfl rfl rfl rfl ?_
  refine g_aload (pc' := 1) rfl rfl rfl ?_
  refine g_obj (pc' := 4) rfl rfl ⟨by decide, by decide⟩ ?_
  refine g_aload (pc' := 5) rfl rfl rfl ?_
  refine g_const (pc' := 8) rfl rfl ?_
  refine g_newi (j := 200) (pc' := 10) (k := 2) (sh' := SHk 3) rfl rfl (by decide +kernel) (SHk_l (by decide)) (zr_Z (by decide)) rfl rfl (by decide +kernel) ?_
  refine g_putr (pc' := 13) rfl rfl rfl (shp_k (by decide +kernel)) (by decide) ?_
  exact g_ret rfl rfl rfl ⟨rfl, rfl⟩
def Rf4 : Int → Int → Int := mx_zr (mx_up (Rf3) ((0 : Nat) : Int) 0 ((1 : Nat) : Int)) 3 (-1)
def Rf5 : Int → Int → Int := mx_up (mx_up (mx_mr (Rf4) 4 20) ((3 : Nat) : Int) 0 ((4 : Nat) : Int)) ((3 : Nat) : Int) 2 ((1 : Nat) : Int)
theorem k_X0_init {w : Int → Int → Int} : mx_call 1 5 [.inr (.inr ((3 : Nat) : Int)), .inr (.inr ((1 : Nat) : Int))] (SHk 4, Rf4, ZZ w, 21, 140) (fun v m' => v = none ∧ m' = (SHk 25, Rf5, ZZ w, 0, 0)) := by
  refine GR.beg (ls := [some (.inr (.inr ((3 : Nat) : Int))), some (.inr (.inr ((1 : Nat) : Int)))]) rfl rfl rfl rfl rfl ?_
  refine g_aload (pc' := 1) rfl rfl rfl ?_
  refine g_obj (pc' := 4) rfl rfl ⟨by decide, by decide⟩ ?_
  refine g_aload (pc' := 5) rfl rfl rfl ?_
  refine g_const (pc' := 7) rfl rfl ?_
  refine g_const (pc' := 9) rfl rfl ?_
  refine g_multi (j := 6) (y := 20) (pc' := 13) (k := 4) (sh' := SHk 25) rfl rfl (by decide +kernel) (SHk_l (by decide)) (zr_Z (by decide)) rfl rfl (by decide +kernel) ?_
  refine g_putr (pc' := 16) rfl rfl rfl (shp_k (by decide +kernel)) (by decide) ?_
  refine g_aload (pc' := 17) rfl rfl rfl ?_
  refine g_aload (pc' := 18) rfl rfl rfl ?_
  refine g_putr (pc' := 21) rfl rfl rfl (shp_k (by decide +kernel)) (by decide) ?_
  exact g_ret rfl rfl rfl ⟨rfl, rfl⟩
def Rf6 : Int → Int → Int := mx_zr (mx_up (Rf5) ((0 : Nat) : Int) 1 ((3 : Nat) : Int)) 25 (-1)
def Rf7 : Int → Int → Int := mx_up (mx_mr (mx_up (mx_mr (mx_up (mx_zr (mx_up (mx_zr (mx_up (mx_zr (mx_up (mx_zr (mx_up (mx_mr (mx_up (mx_zr (mx_up (mx_zr (mx_up (mx_zr (mx_up (mx_zr (Rf6) 26 (-1)) ((25 : Nat) : Int) 1 ((26 : Nat) : Int)) 27 (-1)) ((25 : Nat) : Int) 2 ((27 : Nat) : Int)) 28 (-1)) ((25 : Nat) : Int) 3 ((28 : Nat) : Int)) 29 (-1)) ((25 : Nat) : Int) 4 ((29 : Nat) : Int)) 30 7) ((25 : Nat) : Int) 5 ((30 : Nat) : Int)) 38 (-1)) ((25 : Nat) : Int) 7 ((38 : Nat) : Int)) 39 (-1)) ((25 : Nat) : Int) 8 ((39 : Nat) : Int)) 40 (-1)) ((25 : Nat) : Int) 9 ((40 : Nat) : Int)) 41 (-1)) ((25 : Nat) : Int) 11 ((41 : Nat) : Int)) 42 8) ((25 : Nat) : Int) 12 ((42 : Nat) : Int)) 51 7) ((25 : Nat) : Int) 14 ((51 : Nat) : Int)
theorem k_X3_init {w : Int → Int → Int} : mx_call 1 148 [.inr (.inr ((25 : Nat) : Int))] (SHk 26, Rf6, ZZ w, 33, 254) (fun v m' => v = none ∧ m' = (SHk 59, Rf7, Z6 w, 0, 0)) := by
  refine GR.beg (ls := [some (.inr (.inr ((25 : Nat) : Int)))]) rfl rfl rfl rfl rfl ?_
  refine g_aload (pc' := 1) rfl rfl rfl ?_
  refine g_obj (pc' := 4) rfl rfl ⟨by decide, by decide⟩ ?_
  refine g_aload (pc' := 5) rfl rfl rfl ?_
  refine g_const (pc' := 7) rfl rfl ?_
  refine g_newi (j := 7) (pc' := 9) (k := 26) (sh' := SHk 27) rfl rfl (by decide +kernel) (SHk_l (by decide)) (zr_Z (by decide)) rfl rfl (by decide +kernel) ?_
  refine g_putr (pc' := 12) rfl rfl rfl (shp_k (by decide +kernel)) (by decide) ?_
  refine g_aload (pc' := 13) rfl rfl rfl ?_
  refine g_const (pc' := 15) rfl rfl ?_
  refine g_newi (j := 7) (pc' := 17) (k := 27) (sh' := SHk 28) rfl rfl (by decide +kernel) (SHk_l (by decide)) (zr_Z (by decide)) rfl rfl (by decide +kernel) ?_
  refine g_putr (pc' := 20) rfl rfl rfl (shp_k (by decide +kernel)) (by decide) ?_
  refine g_aload (pc' := 21) rfl rfl rfl ?_
  refine g_const (pc' := 23) rfl rfl ?_
  refine g_newi (j := 7) (pc' := 25) (k := 28) (sh' := SHk 29) rfl rfl (by decide +kernel) (SHk_l (by decide)) (zr_Z (by decide)) rfl rfl (by decide +kernel) ?_
  refine g_putr (pc' := 28) rfl rfl rfl (shp_k (by decide +kernel)) (by decide) ?_
  refine g_aload (pc' := 29) rfl rfl rfl ?_
  refine g_const (pc' := 31) rfl rfl ?_
  refine g_newi (j := 7) (pc' := 33) (k := 29) (sh' := SHk 30) rfl rfl (by decide +kernel) (SHk_l (by decide)) (zr_Z (by decide)) rfl rfl (by decide +kernel) ?_
  refine g_putr (pc' := 36) rfl rfl rfl (shp_k (by decide +kernel)) (by decide) ?_
  refine g_aload (pc' := 37) rfl rfl rfl ?_
  refine g_const (pc' := 39) rfl rfl ?_
  refine g_const (pc' := 41) rfl rfl ?_
  refine g_multi (j := 8) (y := 7) (pc' := 45) (k := 30) (sh' := SHk 38) rfl rfl (by decide +kernel) (SHk_l (by decide)) (zr_Z (by decide)) rfl rfl (by decide +kernel) ?_
  refine g_putr (pc' := 48) rfl rfl rfl (shp_k (by decide +kernel)) (by decide) ?_
  refine g_aload (pc' := 49) rfl rfl rfl ?_
  refine g_const (pc' := 51) rfl rfl ?_
  refine g_newi (j := 9) (pc' := 53) (k := 38) (sh' := SHk 39) rfl rfl (by decide +kernel) (SHk_l (by decide)) (zr_Z (by decide)) rfl rfl (by decide +kernel) ?_
  refine g_putr (pc' := 56) rfl rfl rfl (shp_k (by decide +kernel)) (by decide) ?_
  refine g_aload (pc' := 57) rfl rfl rfl ?_
  refine g_const (pc' := 59) rfl rfl ?_
  refine g_newi (j := 9) (pc' := 61) (k := 39) (sh' := SHk 40) rfl rfl (by decide +kernel) (SHk_l (by decide)) (zr_Z (by decide)) rfl rfl (by decide +kernel) ?_
  refine g_putr (pc' := 64) rfl rfl rfl (shp_k (by decide +kernel)) (by decide) ?_
  refine g_aload (pc' := 65) rfl rfl rfl ?_
  refine g_const (pc' := 67) rfl rfl ?_
  refine g_newi (j := 9) (pc' := 69) (k := 40) (sh' := SHk 41) rfl rfl (by decide +kernel) (SHk_l (by decide)) (zr_Z (by decide)) rfl rfl (by decide +kernel) ?_
  refine g_putr (pc' := 72) rfl rfl rfl (shp_k (by decide +kernel)) (by decide) ?_
  refine g_aload (pc' := 73) rfl rfl rfl ?_
  refine g_const (pc' := 75) rfl rfl ?_
  refine g_newi (j := 8) (pc' := 77) (k := 41) (sh' := SHk 42) rfl rfl (by decide +kernel) (SHk_l (by decide)) (zr_Z (by decide)) rfl rfl (by decide +kernel) ?_
  refine g_putr (pc' := 80) rfl rfl rfl (shp_k (by decide +kernel)) (by decide) ?_
  refine g_aload (pc' := 81) rfl rfl rfl ?_
  refine g_const (pc' := 83) rfl rfl ?_
  refine g_const (pc' := 85) rfl rfl ?_
  refine g_multi (j := 8) (y := 8) (pc' := 89) (k := 42) (sh' := SHk 51) rfl rfl (by decide +kernel) (SHk_l (by decide)) (zr_Z (by decide)) rfl rfl (by decide +kernel) ?_
  refine g_putr (pc' := 92) rfl rfl rfl (shp_k (by decide +kernel)) (by decide) ?_
  refine g_aload (pc' := 93) rfl rfl rfl ?_
  refine g_const (pc' := 95) rfl rfl ?_
  refine g_puti (pc' := 98) rfl rfl rfl (shp_k (by decide +kernel)) ?_
  refine g_aload (pc' := 99) rfl rfl rfl ?_
  refine g_const (pc' := 101) rfl rfl ?_
  refine g_const (pc' := 103) rfl rfl ?_
  refine g_multi (j := 7) (y := 7) (pc' := 107) (k := 51) (sh' := SHk 59) rfl rfl (by decide +kernel) (SHk_l (by decide)) (zr_6 (by decide)) rfl rfl (by decide +kernel) ?_
  refine g_putr (pc' := 110) rfl rfl rfl (shp_k (by decide +kernel)) (by decide) ?_
  exact g_ret rfl rfl rfl ⟨rfl, rfl⟩
def Rf8 : Int → Int → Int := mx_zr (mx_up (mx_up (mx_zr (mx_zr (mx_up (Rf7) ((0 : Nat) : Int) 2 ((25 : Nat) : Int)) 59 (-1)) 60 (-1)) ((59 : Nat) : Int) 0 ((60 : Nat) : Int)) ((0 : Nat) : Int) 3 ((59 : Nat) : Int)) 61 (-1)
def Rf9 : Int → Int → Int := mx_up (mx_up (mx_zr (mx_zr (mx_up (mx_up (mx_zr (mx_zr (mx_up (mx_up (mx_zr (mx_zr (mx_up (mx_up (mx_zr (mx_zr (mx_up (mx_up (mx_zr (mx_zr (mx_up (mx_up (mx_zr (mx_zr (mx_up (mx_up (mx_zr (mx_zr (mx_up (mx_up (mx_zr (mx_zr (mx_up (mx_zr (Rf8) 62 (-1)) ((61 : Nat) : Int) 1 ((62 : Nat) : Int)) 63 (-1)) 64 (-1)) ((63 : Nat) : Int) 0 ((64 : Nat) : Int)) ((62 : Nat) : Int) 0 ((63 : Nat) : Int)) 65 (-1)) 66 (-1)) ((65 : Nat) : Int) 0 ((66 : Nat) : Int)) ((62 : Nat) : Int) 1 ((65 : Nat) : Int)) 67 (-1)) 68 (-1)) ((67 : Nat) : Int) 0 ((68 : Nat) : Int)) ((62 : Nat) : Int) 2 ((67 : Nat) : Int)) 69 (-1)) 70 (-1)) ((69 : Nat) : Int) 0 ((70 : Nat) : Int)) ((62 : Nat) : Int) 3 ((69 : Nat) : Int)) 71 (-1)) 72 (-1)) ((71 : Nat) : Int) 0 ((72 : Nat) : Int)) ((62 : Nat) : Int) 4 ((71 : Nat) : Int)) 73 (-1)) 74 (-1)) ((73 : Nat) : Int) 0 ((74 : Nat) : Int)) ((62 : Nat) : Int) 5 ((73 : Nat) : Int)) 75 (-1)) 76 (-1)) ((75 : Nat) : Int) 0 ((76 : Nat) : Int)) ((62 : Nat) : Int) 6 ((75 : Nat) : Int)) 77 (-1)) 78 (-1)) ((77 : Nat) : Int) 0 ((78 : Nat) : Int)) ((62 : Nat) : Int) 7 ((77 : Nat) : Int)
theorem k_X4_init {w : Int → Int → Int} : mx_call 2 158 [.inr (.inr ((61 : Nat) : Int))] (SHk 62, Rf8, Z6 w, 17, 112) (fun v m' => v = none ∧ m' = (SHk 79, Rf9, Z6 w, 0, 0)) := by
  refine GR.beg (ls := [some (.inr (.inr ((61 : Nat) : Int))), none]) rfl rfl rfl rfl rfl ?_
  refine g_aload (pc' := 1) rfl rfl rfl ?_
  refine g_obj (pc' := 4) rfl rfl ⟨by decide, by decide⟩ ?_
  refine g_aload (pc' := 5) rfl rfl rfl ?_
  refine g_const (pc' := 7) rfl rfl ?_
  refine g_anew (j := 8) (pc' := 10) (k := 62) (sh' := SHk 63) rfl rfl (by decide +kernel) (SHk_l (by decide)) (zr_6 (by decide)) rfl rfl (by decide +kernel) ?_
  refine g_putr (pc' := 13) rfl rfl rfl (shp_k (by decide +kernel)) (by decide) ?_
  refine g_const (pc' := 14) rfl rfl ?_
  refine g_istore (pc' := 15) (ls' := [some (.inr (.inr ((61 : Nat) : Int))), some (.inl 0)]) rfl rfl rfl rfl ?_
  refine g_iload (pc' := 16) rfl rfl rfl ?_
  refine g_const (pc' := 18) rfl rfl ?_
  refine g_ge0 (pc' := 21) rfl rfl (by decide) (by decide) ?_
  refine g_aload (pc' := 22) rfl rfl rfl ?_
  refine g_getr (pc' := 25) (v := ((62 : Nat) : Int)) rfl rfl rfl (shp_k (by decide +kernel)) (by decide +kernel) ?_
  refine g_iload (pc' := 26) rfl rfl rfl ?_
  refine g_new (pc' := 29) (k := 63) (sh' := SHk 64) rfl rfl (by decide +kernel) (SHk_l (by decide)) (zr_6 (by decide)) rfl rfl (by decide +kernel) ?_
  refine g_dup (pc' := 30) rfl rfl ?_
  refine g_call (pc' := 33) (sh' := SHk 65) (RF' := mx_up (mx_zr (mx_zr (mx_up (mx_zr (Rf8) 62 (-1)) ((61 : Nat) : Int) 1 ((62 : Nat) : Int)) 63 (-1)) 64 (-1)) ((63 : Nat) : Int) 0 ((64 : Nat) : Int)) (S' := Z6 w) (as := [.inr (.inr ((63 : Nat) : Int))]) rfl rfl rfl (by rw [show SHk 65 = SHk 64 ++ [(100, 7)] by decide +kernel]; exact (k_State (sh := SHk 64) (a := 63) (k := 64) (SHk_l (by decide)) (by decide +kernel) (zr_6 (by decide)))) (by omega) rfl rfl (by decide) ⟨_, _, rfl, shp_k (by decide +kernel)⟩ (by decide) rfl rfl rfl ?_
  refine g_aast 103008 (pc' := 34) rfl rfl rfl (shp_k (by decide +kernel)) (by decide) (shp_k (by decide +kernel)) ?_
  refine g_iinc (pc' := 37) (ls' := [some (.inr (.inr ((61 : Nat) : Int))), some (.inl 1)]) rfl rfl rfl rfl rfl ?_
  refine g_goto (pc' := 15) rfl rfl ?_
  refine g_iload (pc' := 16) rfl rfl rfl ?_
  refine g_const (pc' := 18) rfl rfl ?_
  refine g_ge0 (pc' := 21) rfl rfl (by decide) (by decide) ?_
  refine g_aload (pc' := 22) rfl rfl rfl ?_
  refine g_getr (pc' := 25) (v := ((62 : Nat) : Int)) rfl rfl rfl (shp_k (by decide +kernel)) (by decide +kernel) ?_
  refine g_iload (pc' := 26) rfl rfl rfl ?_
  refine g_new (pc' := 29) (k := 65) (sh' := SHk 66) rfl rfl (by decide +kernel) (SHk_l (by decide)) (zr_6 (by decide)) rfl rfl (by decide +kernel) ?_
  refine g_dup (pc' := 30) rfl rfl ?_
  refine g_call (pc' := 33) (sh' := SHk 67) (RF' := mx_up (mx_zr (mx_zr (mx_up (mx_up (mx_zr (mx_zr (mx_up (mx_zr (Rf8) 62 (-1)) ((61 : Nat) : Int) 1 ((62 : Nat) : Int)) 63 (-1)) 64 (-1)) ((63 : Nat) : Int) 0 ((64 : Nat) : Int)) ((62 : Nat) : Int) 0 ((63 : Nat) : Int)) 65 (-1)) 66 (-1)) ((65 : Nat) : Int) 0 ((66 : Nat) : Int)) (S' := Z6 w) (as := [.inr (.inr ((65 : Nat) : Int))]) rfl rfl rfl (by rw [show SHk 67 = SHk 66 ++ [(100, 7)] by decide +kernel]; exact (k_State (sh := SHk 66) (a := 65) (k := 66) (SHk_l (by decide)) (by decide +kernel) (zr_6 (by decide)))) (by omega) rfl rfl (by decide) ⟨_, _, rfl, shp_k (by decide +kernel)⟩ (by decide) rfl rfl rfl ?_
  refine g_aast 103008 (pc' := 34) rfl rfl rfl (shp_k (by decide +kernel)) (by decide) (shp_k (by decide +kernel)) ?_
  refine g_iinc (pc' := 37) (ls' := [some (.inr (.inr ((61 : Nat) : Int))), some (.inl 2)]) rfl rfl rfl rfl rfl ?_
  refine g_goto (pc' := 15) rfl rfl ?_
  refine g_iload (pc' := 16) rfl rfl rfl ?_
  refine g_const (pc' := 18) rfl rfl ?_
  refine g_ge0 (pc' := 21) rfl rfl (by decide) (by decide) ?_
  refine g_aload (pc' := 22) rfl rfl rfl ?_
  refine g_getr (pc' := 25) (v := ((62 : Nat) : Int)) rfl rfl rfl (shp_k (by decide +kernel)) (by decide +kernel) ?_
  refine g_iload (pc' := 26) rfl rfl rfl ?_
  refine g_new (pc' := 29) (k := 67) (sh' := SHk 68) rfl rfl (by decide +kernel) (SHk_l (by decide)) (zr_6 (by decide)) rfl rfl (by decide +kernel) ?_
  refine g_dup (pc' := 30) rfl rfl ?_
  refine g_call (pc' := 33) (sh' := SHk 69) (RF' := mx_up (mx_zr (mx_zr (mx_up (mx_up (mx_zr (mx_zr (mx_up (mx_up (mx_zr (mx_zr (mx_up (mx_zr (Rf8) 62 (-1)) ((61 : Nat) : Int) 1 ((62 : Nat) : Int)) 63 (-1)) 64 (-1)) ((63 : Nat) : Int) 0 ((64 : Nat) : Int)) ((62 : Nat) : Int) 0 ((63 : Nat) : Int)) 65 (-1)) 66 (-1)) ((65 : Nat) : Int) 0 ((66 : Nat) : Int)) ((62 : Nat) : Int) 1 ((65 : Nat) : Int)) 67 (-1)) 68 (-1)) ((67 : Nat) : Int) 0 ((68 : Nat) : Int)) (S' := Z6 w) (as := [.inr (.inr ((67 : Nat) : Int))]) rfl rfl rfl (by rw [show SHk 69 = SHk 68 ++ [(100, 7)] by decide +kernel]; exact (k_State (sh := SHk 68) (a := 67) (k := 68) (SHk_l (by decide)) (by decide +kernel) (zr_6 (by decide)))) (by omega) rfl rfl (by decide) ⟨_, _, rfl, shp_k (by decide +kernel)⟩ (by decide) rfl rfl rfl ?_
  refine g_aast 103008 (pc' := 34) rfl rfl rfl (shp_k (by decide +kernel)) (by decide) (shp_k (by decide +kernel)) ?_
  refine g_iinc (pc' := 37) (ls' := [some (.inr (.inr ((61 : Nat) : Int))), some (.inl 3)]) rfl rfl rfl rfl rfl ?_
  refine g_goto (pc' := 15) rfl rfl ?_
  refine g_iload (pc' := 16) rfl rfl rfl ?_
  refine g_const (pc' := 18) rfl rfl ?_
  refine g_ge0 (pc' := 21) rfl rfl (by decide) (by decide) ?_
  refine g_aload (pc' := 22) rfl rfl rfl ?_
  refine g_getr (pc' := 25) (v := ((62 : Nat) : Int)) rfl rfl rfl (shp_k (by decide +kernel)) (by decide +kernel) ?_
  refine g_iload (pc' := 26) rfl rfl rfl ?_
  refine g_new (pc' := 29) (k := 69) (sh' := SHk 70) rfl rfl (by decide +kernel) (SHk_l (by decide)) (zr_6 (by decide)) rfl rfl (by decide +kernel) ?_
  refine g_dup (pc' := 30) rfl rfl ?_
  refine g_call (pc' := 33) (sh' := SHk 71) (RF' := mx_up (mx_zr (mx_zr (mx_up (mx_up (mx_zr (mx_zr (mx_up (mx_up (mx_zr (mx_zr (mx_up (mx_up (mx_zr (mx_zr (mx_up (mx_zr (Rf8) 62 (-1)) ((61 : Nat) : Int) 1 ((62 : Nat) : Int)) 63 (-1)) 64 (-1)) ((63 : Nat) : Int) 0 ((64 : Nat) : Int)) ((62 : Nat) : Int) 0 ((63 : Nat) : Int)) 65 (-1)) 66 (-1)) ((65 : Nat) : Int) 0 ((66 : Nat) : Int)) ((62 : Nat) : Int) 1 ((65 : Nat) : Int)) 67 (-1)) 68 (-1)) ((67 : Nat) : Int) 0 ((68 : Nat) : Int)) ((62 : Nat) : Int) 2 ((67 : Nat) : Int)) 69 (-1)) 70 (-1)) ((69 : Nat) : Int) 0 ((70 : Nat) : Int)) (S' := Z6 w) (as := [.inr (.inr ((69 : Nat) : Int))]) rfl rfl rfl (by rw [show SHk 71 = SHk 70 ++ [(100, 7)] by decide +kernel]; exact (k_State (sh := SHk 70) (a := 69) (k := 70) (SHk_l (by decide)) (by decide +kernel) (zr_6 (by decide)))) (by omega) rfl rfl (by decide) ⟨_, _, rfl, shp_k (by decide +kernel)⟩ (by decide) rfl rfl rfl ?_
  refine g_aast 103008 (pc' := 34) rfl rfl rfl (shp_k (by decide +kernel)) (by decide) (shp_k (by decide +kernel)) ?_
  refine g_iinc (pc' := 37) (ls' := [some (.inr (.inr ((61 : Nat) : Int))), some (.inl 4)]) rfl rfl rfl rfl rfl ?_
  refine g_goto (pc' := 15) rfl rfl ?_
  refine g_iload (pc' := 16) rfl rfl rfl ?_
  refine g_const (pc' := 18) rfl rfl ?_
  refine g_ge0 (pc' := 21) rfl rfl (by decide) (by decide) ?_
  refine g_aload (pc' := 22) rfl rfl rfl ?_
  refine g_getr (pc' := 25) (v := ((62 : Nat) : Int)) rfl rfl rfl (shp_k (by decide +kernel)) (by decide +kernel) ?_
  refine g_iload (pc' := 26) rfl rfl rfl ?_
  refine g_new (pc' := 29) (k := 71) (sh' := SHk 72) rfl rfl (by decide +kernel) (SHk_l (by decide)) (zr_6 (by decide)) rfl rfl (by decide +kernel) ?_
  refine g_dup (pc' := 30) rfl rfl ?_
  refine g_call (pc' := 33) (sh' := SHk 73) (RF' := mx_up (mx_zr (mx_zr (mx_up (mx_up (mx_zr (mx_zr (mx_up (mx_up (mx_zr (mx_zr (mx_up (mx_up (mx_zr (mx_zr (mx_up (mx_up (mx_zr (mx_zr (mx_up (mx_zr (Rf8) 62 (-1)) ((61 : Nat) : Int) 1 ((62 : Nat) : Int)) 63 (-1)) 64 (-1)) ((63 : Nat) : Int) 0 ((64 : Nat) : Int)) ((62 : Nat) : Int) 0 ((63 : Nat) : Int)) 65 (-1)) 66 (-1)) ((65 : Nat) : Int) 0 ((66 : Nat) : Int)) ((62 : Nat) : Int) 1 ((65 : Nat) : Int)) 67 (-1)) 68 (-1)) ((67 : Nat) : Int) 0 ((68 : Nat) : Int)) ((62 : Nat) : Int) 2 ((67 : Nat) : Int)) 69 (-1)) 70 (-1)) ((69 : Nat) : Int) 0 ((70 : Nat) : Int)) ((62 : Nat) : Int) 3 ((69 : Nat) : Int)) 71 (-1)) 72 (-1)) ((71 : Nat) : Int) 0 ((72 : Nat) : Int)) (S' := Z6 w) (as := [.inr (.inr ((71 : Nat) : Int))]) rfl rfl rfl (by rw [show SHk 73 = SHk 72 ++ [(100, 7)] by decide +kernel]; exact (k_State (sh := SHk 72) (a := 71) (k := 72) (SHk_l (by decide)) (by decide +kernel) (zr_6 (by decide)))) (by omega) rfl rfl (by decide) ⟨_, _, rfl, shp_k (by decide +kernel)⟩ (by decide) rfl rfl rfl ?_
  refine g_aast 103008 (pc' := 34) rfl rfl rfl (shp_k (by decide +kernel)) (by decide) (shp_k (by decide +kernel)) ?_
  refine g_iinc (pc' := 37) (ls' := [some (.inr (.inr ((61 : Nat) : Int))), some (.inl 5)]) rfl rfl rfl rfl rfl ?_
  refine g_goto (pc' := 15) rfl rfl ?_
  refine g_iload (pc' := 16) rfl rfl rfl ?_
  refine g_const (pc' := 18) rfl rfl ?_
  refine g_ge0 (pc' := 21) rfl rfl (by decide) (by decide) ?_
  refine g_aload (pc' := 22) rfl rfl rfl ?_
  refine g_getr (pc' := 25) (v := ((62 : Nat) : Int)) rfl rfl rfl (shp_k (by decide +kernel)) (by decide +kernel) ?_
  refine g_iload (pc' := 26) rfl rfl rfl ?_
  refine g_new (pc' := 29) (k := 73) (sh' := SHk 74) rfl rfl (by decide +kernel) (SHk_l (by decide)) (zr_6 (by decide)) rfl rfl (by decide +kernel) ?_
  refine g_dup (pc' := 30) rfl rfl ?_
  refine g_call (pc' := 33) (sh' := SHk 75) (RF' := mx_up (mx_zr (mx_zr (mx_up (mx_up (mx_zr (mx_zr (mx_up (mx_up (mx_zr (mx_zr (mx_up (mx_up (mx_zr (mx_zr (mx_up (mx_up (mx_zr (mx_zr (mx_up (mx_up (mx_zr (mx_zr (mx_up (mx_zr (Rf8) 62 (-1)) ((61 : Nat) : Int) 1 ((62 : Nat) : Int)) 63 (-1)) 64 (-1)) ((63 : Nat) : Int) 0 ((64 : Nat) : Int)) ((62 : Nat) : Int) 0 ((63 : Nat) : Int)) 65 (-1)) 66 (-1)) ((65 : Nat) : Int) 0 ((66 : Nat) : Int)) ((62 : Nat) : Int) 1 ((65 : Nat) : Int)) 67 (-1)) 68 (-1)) ((67 : Nat) : Int) 0 ((68 : Nat) : Int)) ((62 : Nat) : Int) 2 ((67 : Nat) : Int)) 69 (-1)) 70 (-1)) ((69 : Nat) : Int) 0 ((70 : Nat) : Int)) ((62 : Nat) : Int) 3 ((69 : Nat) : Int)) 71 (-1)) 72 (-1)) ((71 : Nat) : Int) 0 ((72 : Nat) : Int)) ((62 : Nat) : Int) 4 ((71 : Nat) : Int)) 73 (-1)) 74 (-1)) ((73 : Nat) : Int) 0 ((74 : Nat) : Int)) (S' := Z6 w) (as := [.inr (.inr ((73 : Nat) : Int))]) rfl rfl rfl (by rw [show SHk 75 = SHk 74 ++ [(100, 7)] by decide +kernel]; exact (k_State (sh := SHk 74) (a := 73) (k := 74) (SHk_l (by decide)) (by decide +kernel) (zr_6 (by decide)))) (by omega) rfl rfl (by decide) ⟨_, _, rfl, shp_k (by decide +kernel)⟩ (by decide) rfl rfl rfl ?_
  refine g_aast 103008 (pc' := 34) rfl rfl rfl (shp_k (by decide +kernel)) (by decide) (shp_k (by decide +kernel)) ?_
  refine g_iinc (pc' := 37) (ls' := [some (.inr (.inr ((61 : Nat) : Int))), some (.inl 6)]) rfl rfl rfl rfl rfl ?_
  refine g_goto (pc' := 15) rfl rfl ?_
  refine g_iload (pc' := 16) rfl rfl rfl ?_
  refine g_const (pc' := 18) rfl rfl ?_
  refine g_ge0 (pc' := 21) rfl rfl (by decide) (by decide) ?_
  refine g_aload (pc' := 22) rfl rfl rfl ?_
  refine g_getr (pc' := 25) (v := ((62 : Nat) : Int)) rfl rfl rfl (shp_k (by decide +kernel)) (by decide +kernel) ?_
  refine g_iload (pc' := 26) rfl rfl rfl ?_
  refine g_new (pc' := 29) (k := 75) (sh' := SHk 76) rfl rfl (by decide +kernel) (SHk_l (by decide)) (zr_6 (by decide)) rfl rfl (by decide +kernel) ?_
  refine g_dup (pc' := 30) rfl rfl ?_
  refine g_call (pc' := 33) (sh' := SHk 77) (RF' := mx_up (mx_zr (mx_zr (mx_up (mx_up (mx_zr (mx_zr (mx_up (mx_up (mx_zr (mx_zr (mx_up (mx_up (mx_zr (mx_zr (mx_up (mx_up (mx_zr (mx_zr (mx_up (mx_up (mx_zr (mx_zr (mx_up (mx_up (mx_zr (mx_zr (mx_up (mx_zr (Rf8) 62 (-1)) ((61 : Nat) : Int) 1 ((62 : Nat) : Int)) 63 (-1)) 64 (-1)) ((63 : Nat) : Int) 0 ((64 : Nat) : Int)) ((62 : Nat) : Int) 0 ((63 : Nat) : Int)) 65 (-1)) 66 (-1)) ((65 : Nat) : Int) 0 ((66 : Nat) : Int)) ((62 : Nat) : Int) 1 ((65 : Nat) : Int)) 67 (-1)) 68 (-1)) ((67 : Nat) : Int) 0 ((68 : Nat) : Int)) ((62 : Nat) : Int) 2 ((67 : Nat) : Int)) 69 (-1)) 70 (-1)) ((69 : Nat) : Int) 0 ((70 : Nat) : Int)) ((62 : Nat) : Int) 3 ((69 : Nat) : Int)) 71 (-1)) 72 (-1)) ((71 : Nat) : Int) 0 ((72 : Nat) : Int)) ((62 : Nat) : Int) 4 ((71 : Nat) : Int)) 73 (-1)) 74 (-1)) ((73 : Nat) : Int) 0 ((74 : Nat) : Int)) ((62 : Nat) : Int) 5 ((73 : Nat) : Int)) 75 (-1)) 76 (-1)) ((75 : Nat) : Int) 0 ((76 : Nat) : Int)) (S' := Z6 w) (as := [.inr (.inr ((75 : Nat) : Int))]) rfl rfl rfl (by rw [show SHk 77 = SHk 76 ++ [(100, 7)] by decide +kernel]; exact (k_State (sh := SHk 76) (a := 75) (k := 76) (SHk_l (by decide)) (by decide +kernel) (zr_6 (by decide)))) (by omega) rfl rfl (by decide) ⟨_, _, rfl, shp_k (by decide +kernel)⟩ (by decide) rfl rfl rfl ?_
  refine g_aast 103008 (pc' := 34) rfl rfl rfl (shp_k (by decide +kernel)) (by decide) (shp_k (by decide +kernel)) ?_
  refine g_iinc (pc' := 37) (ls' := [some (.inr (.inr ((61 : Nat) : Int))), some (.inl 7)]) rfl rfl rfl rfl rfl ?_
  refine g_goto (pc' := 15) rfl rfl ?_
  refine g_iload (pc' := 16) rfl rfl rfl ?_
  refine g_const (pc' := 18) rfl rfl ?_
  refine g_ge0 (pc' := 21) rfl rfl (by decide) (by decide) ?_
  refine g_aload (pc' := 22) rfl rfl rfl ?_
  refine g_getr (pc' := 25) (v := ((62 : Nat) : Int)) rfl rfl rfl (shp_k (by decide +kernel)) (by decide +kernel) ?_
  refine g_iload (pc' := 26) rfl rfl rfl ?_
  refine g_new (pc' := 29) (k := 77) (sh' := SHk 78) rfl rfl (by decide +kernel) (SHk_l (by decide)) (zr_6 (by decide)) rfl rfl (by decide +kernel) ?_
  refine g_dup (pc' := 30) rfl rfl ?_
  refine g_call (pc' := 33) (sh' := SHk 79) (RF' := mx_up (mx_zr (mx_zr (mx_up (mx_up (mx_zr (mx_zr (mx_up (mx_up (mx_zr (mx_zr (mx_up (mx_up (mx_zr (mx_zr (mx_up (mx_up (mx_zr (mx_zr (mx_up (mx_up (mx_zr (mx_zr (mx_up (mx_up (mx_zr (mx_zr (mx_up (mx_up (mx_zr (mx_zr (mx_up (mx_zr (Rf8) 62 (-1)) ((61 : Nat) : Int) 1 ((62 : Nat) : Int)) 63 (-1)) 64 (-1)) ((63 : Nat) : Int) 0 ((64 : Nat) : Int)) ((62 : Nat) : Int) 0 ((63 : Nat) : Int)) 65 (-1)) 66 (-1)) ((65 : Nat) : Int) 0 ((66 : Nat) : Int)) ((62 : Nat) : Int) 1 ((65 : Nat) : Int)) 67 (-1)) 68 (-1)) ((67 : Nat) : Int) 0 ((68 : Nat) : Int)) ((62 : Nat) : Int) 2 ((67 : Nat) : Int)) 69 (-1)) 70 (-1)) ((69 : Nat) : Int) 0 ((70 : Nat) : Int)) ((62 : Nat) : Int) 3 ((69 : Nat) : Int)) 71 (-1)) 72 (-1)) ((71 : Nat) : Int) 0 ((72 : Nat) : Int)) ((62 : Nat) : Int) 4 ((71 : Nat) : Int)) 73 (-1)) 74 (-1)) ((73 : Nat) : Int) 0 ((74 : Nat) : Int)) ((62 : Nat) : Int) 5 ((73 : Nat) : Int)) 75 (-1)) 76 (-1)) ((75 : Nat) : Int) 0 ((76 : Nat) : Int)) ((62 : Nat) : Int) 6 ((75 : Nat) : Int)) 77 (-1)) 78 (-1)) ((77 : Nat) : Int) 0 ((78 : Nat) : Int)) (S' := Z6 w) (as := [.inr (.inr ((77 : Nat) : Int))]) rfl rfl rfl (by rw [show SHk 79 = SHk 78 ++ [(100, 7)] by decide +kernel]; exact (k_State (sh := SHk 78) (a := 77) (k := 78) (SHk_l (by decide)) (by decide +kernel) (zr_6 (by decide)))) (by omega) rfl rfl (by decide) ⟨_, _, rfl, shp_k (by decide +kernel)⟩ (by decide) rfl rfl rfl ?_
  refine g_aast 103008 (pc' := 34) rfl rfl rfl (shp_k (by decide +kernel)) (by decide) (shp_k (by decide +kernel)) ?_
  refine g_iinc (pc' := 37) (ls' := [some (.inr (.inr ((61 : Nat) : Int))), some (.inl 8)]) rfl rfl rfl rfl rfl ?_
  refine g_goto (pc' := 15) rfl rfl ?_
  refine g_iload (pc' := 16) rfl rfl rfl ?_
  refine g_const (pc' := 18) rfl rfl ?_
  refine g_ge1 (pc' := 40) rfl rfl (by decide) (by decide) ?_
  exact g_ret rfl rfl rfl ⟨rfl, rfl⟩
def Rf10 : Int → Int → Int := mx_zr (mx_up (mx_zr (mx_up (mx_zr (mx_up (Rf9) ((0 : Nat) : Int) 4 ((61 : Nat) : Int)) 79 (-1)) ((0 : Nat) : Int) 5 ((79 : Nat) : Int)) 80 (-1)) ((0 : Nat) : Int) 6 ((80 : Nat) : Int)) 81 (-1)
def Rf11 : Int → Int → Int := mx_up (mx_zr (mx_up (mx_zr (mx_up (mx_zr (Rf10) 82 (-1)) ((81 : Nat) : Int) 1 ((82 : Nat) : Int)) 83 (-1)) ((81 : Nat) : Int) 2 ((83 : Nat) : Int)) 84 (-1)) ((81 : Nat) : Int) 3 ((84 : Nat) : Int)
theorem k_X6_init {w : Int → Int → Int} : mx_call 1 167 [.inr (.inr ((81 : Nat) : Int))] (SHk 82, Rf10, Z6 w, 3, 18) (fun v m' => v = none ∧ m' = (SHk 85, Rf11, Z6 w, 0, 0)) := by
  refine GR.beg (ls := [some (.inr (.inr ((81 : Nat) : Int)))]) rfl rfl rfl rfl rfl ?_
  refine g_aload (pc' := 1) rfl rfl rfl ?_
  refine g_obj (pc' := 4) rfl rfl ⟨by decide, by decide⟩ ?_
  refine g_aload (pc' := 5) rfl rfl rfl ?_
  refine g_const (pc' := 7) rfl rfl ?_
  refine g_newi (j := 6) (pc' := 9) (k := 82) (sh' := SHk 83) rfl rfl (by decide +kernel) (SHk_l (by decide)) (zr_6 (by decide)) rfl rfl (by decide +kernel) ?_
  refine g_putr (pc' := 12) rfl rfl rfl (shp_k (by decide +kernel)) (by decide) ?_
  refine g_aload (pc' := 13) rfl rfl rfl ?_
  refine g_const (pc' := 15) rfl rfl ?_
  refine g_newi (j := 6) (pc' := 17) (k := 83) (sh' := SHk 84) rfl rfl (by decide +kernel) (SHk_l (by decide)) (zr_6 (by decide)) rfl rfl (by decide +kernel) ?_
  refine g_putr (pc' := 20) rfl rfl rfl (shp_k (by decide +kernel)) (by decide) ?_
  refine g_aload (pc' := 21) rfl rfl rfl ?_
  refine g_const (pc' := 23) rfl rfl ?_
  refine g_newi (j := 6) (pc' := 25) (k := 84) (sh' := SHk 85) rfl rfl (by decide +kernel) (SHk_l (by decide)) (zr_6 (by decide)) rfl rfl (by decide +kernel) ?_
  refine g_putr (pc' := 28) rfl rfl rfl (shp_k (by decide +kernel)) (by decide) ?_
  exact g_ret rfl rfl rfl ⟨rfl, rfl⟩
def Rf12 : Int → Int → Int := mx_zr (mx_up (Rf11) ((0 : Nat) : Int) 7 ((81 : Nat) : Int)) 85 (-1)
def Rf13 : Int → Int → Int := mx_up (mx_zr (mx_up (mx_mr (mx_up (mx_zr (mx_up (mx_zr (mx_up (mx_zr (Rf12) 86 (-1)) ((85 : Nat) : Int) 0 ((86 : Nat) : Int)) 87 (-1)) ((85 : Nat) : Int) 4 ((87 : Nat) : Int)) 88 (-1)) ((85 : Nat) : Int) 5 ((88 : Nat) : Int)) 89 128) ((85 : Nat) : Int) 6 ((89 : Nat) : Int)) 218 (-1)) ((85 : Nat) : Int) 7 ((218 : Nat) : Int)
theorem k_X9_init {w : Int → Int → Int} : mx_call 1 188 [.inr (.inr ((85 : Nat) : Int))] (SHk 86, Rf12, Z6 w, 133, 1173) (fun v m' => v = none ∧ m' = (SHk 219, Rf13, Z6 w, 0, 0)) := by
  refine GR.beg (ls := [some (.inr (.inr ((85 : Nat) : Int)))]) rfl rfl rfl rfl rfl ?_
  refine g_aload (pc' := 1) rfl rfl rfl ?_
  refine g_obj (pc' := 4) rfl rfl ⟨by decide, by decide⟩ ?_
  refine g_aload (pc' := 5) rfl rfl rfl ?_
  refine g_const (pc' := 7) rfl rfl ?_
  refine g_newi (j := 7) (pc' := 9) (k := 86) (sh' := SHk 87) rfl rfl (by decide +kernel) (SHk_l (by decide)) (zr_6 (by decide)) rfl rfl (by decide +kernel) ?_
  refine g_putr (pc' := 12) rfl rfl rfl (shp_k (by decide +kernel)) (by decide) ?_
  refine g_aload (pc' := 13) rfl rfl rfl ?_
  refine g_const (pc' := 15) rfl rfl ?_
  refine g_newi (j := 7) (pc' := 17) (k := 87) (sh' := SHk 88) rfl rfl (by decide +kernel) (SHk_l (by decide)) (zr_6 (by decide)) rfl rfl (by decide +kernel) ?_
  refine g_putr (pc' := 20) rfl rfl rfl (shp_k (by decide +kernel)) (by decide) ?_
  refine g_aload (pc' := 21) rfl rfl rfl ?_
  refine g_const (pc' := 23) rfl rfl ?_
  refine g_newi (j := 7) (pc' := 25) (k := 88) (sh' := SHk 89) rfl rfl (by decide +kernel) (SHk_l (by decide)) (zr_6 (by decide)) rfl rfl (by decide +kernel) ?_
  refine g_putr (pc' := 28) rfl rfl rfl (shp_k (by decide +kernel)) (by decide) ?_
  refine g_aload (pc' := 29) rfl rfl rfl ?_
  refine g_const (pc' := 32) rfl rfl ?_
  refine g_const (pc' := 34) rfl rfl ?_
  refine g_multi (j := 7) (y := 128) (pc' := 38) (k := 89) (sh' := SHk 218) rfl rfl (by decide +kernel) (SHk_l (by decide)) (zr_6 (by decide)) rfl rfl (by decide +kernel) ?_
  refine g_putr (pc' := 41) rfl rfl rfl (shp_k (by decide +kernel)) (by decide) ?_
  refine g_aload (pc' := 42) rfl rfl rfl ?_
  refine g_const (pc' := 45) rfl rfl ?_
  refine g_newi (j := 128) (pc' := 47) (k := 218) (sh' := SHk 219) rfl rfl (by decide +kernel) (SHk_l (by decide)) (zr_6 (by decide)) rfl rfl (by decide +kernel) ?_
  refine g_putr (pc' := 50) rfl rfl rfl (shp_k (by decide +kernel)) (by decide) ?_
  exact g_ret rfl rfl rfl ⟨rfl, rfl⟩
def Rf14 : Int → Int → Int := mx_up (mx_up (mx_zr (mx_zr (mx_up (mx_up (mx_zr (mx_zr (mx_up (mx_up (mx_zr (mx_zr (mx_up (mx_up (mx_zr (mx_zr (mx_up (mx_up (mx_zr (mx_zr (mx_up (mx_up (mx_zr (mx_zr (mx_up (mx_zr (mx_up (Rf13) ((0 : Nat) : Int) 8 ((85 : Nat) : Int)) 219 (-1)) ((0 : Nat) : Int) 9 ((219 : Nat) : Int)) 220 (-1)) 221 (-1)) ((220 : Nat) : Int) 0 ((221 : Nat) : Int)) ((79 : Nat) : Int) 0 ((220 : Nat) : Int)) 222 (-1)) 223 (-1)) ((222 : Nat) : Int) 0 ((223 : Nat) : Int)) ((79 : Nat) : Int) 1 ((222 : Nat) : Int)) 224 (-1)) 225 (-1)) ((224 : Nat) : Int) 3 ((225 : Nat) : Int)) ((219 : Nat) : Int) 0 ((224 : Nat) : Int)) 226 (-1)) 227 (-1)) ((226 : Nat) : Int) 3 ((227 : Nat) : Int)) ((219 : Nat) : Int) 1 ((226 : Nat) : Int)) 228 (-1)) 229 (-1)) ((228 : Nat) : Int) 3 ((229 : Nat) : Int)) ((219 : Nat) : Int) 2 ((228 : Nat) : Int)) 230 (-1)) 231 (-1)) ((230 : Nat) : Int) 3 ((231 : Nat) : Int)) ((219 : Nat) : Int) 3 ((230 : Nat) : Int)
theorem k_X10_init {w : Int → Int → Int} : mx_call 3 29 [.inr (.inr ((0 : Nat) : Int))] (SHk 1, Rf1, ZZ w, 231, 2097) (fun v m' => v = none ∧ m' = (SHk 232, Rf14, Z6 w, 0, 0)) := by
  refine GR.beg (ls := [some (.inr (.inr ((0 : Nat) : Int))), none]) rfl rfl rfl rfl rfl ?_
  refine g_aload (pc' := 1) rfl rfl rfl ?_
  refine g_obj (pc' := 4) rfl rfl ⟨by decide, by decide⟩ ?_
  refine g_aload (pc' := 5) rfl rfl rfl ?_
  refine g_new (pc' := 8) (k := 1) (sh' := SHk 2) rfl rfl (by decide +kernel) (SHk_l (by decide)) (zr_Z (by decide)) rfl rfl (by decide +kernel) ?_
  refine g_dup (pc' := 9) rfl rfl ?_
  show GR _ _ _ _ _ _ (SHk 2, Rf2, _, _, _)
  refine g_call (pc' := 12) (sh' := SHk 3) (RF' := Rf3) (S' := ZZ w) (as := [.inr (.inr ((1 : Nat) : Int))]) rfl rfl rfl k_X8_init (by omega) rfl rfl (by decide) ⟨_, _, rfl, shp_k (by decide +kernel)⟩ (by decide) rfl rfl rfl ?_
  refine g_putr (pc' := 15) rfl rfl rfl (shp_k (by decide +kernel)) (by decide) ?_
  refine g_aload (pc' := 16) rfl rfl rfl ?_
  refine g_new (pc' := 19) (k := 3) (sh' := SHk 4) rfl rfl (by decide +kernel) (SHk_l (by decide)) (zr_Z (by decide)) rfl rfl (by decide +kernel) ?_
  refine g_dup (pc' := 20) rfl rfl ?_
  refine g_aload (pc' := 21) rfl rfl rfl ?_
  refine g_getr (pc' := 24) (v := ((1 : Nat) : Int)) rfl rfl rfl (shp_k (by decide +kernel)) (by decide +kernel) ?_
  show GR _ _ _ _ _ _ (SHk 4, Rf4, _, _, _)
  refine g_call (pc' := 27) (sh' := SHk 25) (RF' := Rf5) (S' := ZZ w) (as := [.inr (.inr ((3 : Nat) : Int)), .inr (.inr ((1 : Nat) : Int))]) rfl rfl rfl k_X0_init (by omega) rfl rfl (by decide) ⟨_, _, rfl, shp_k (by decide +kernel)⟩ (by decide) rfl rfl rfl ?_
  refine g_putr (pc' := 30) rfl rfl rfl (shp_k (by decide +kernel)) (by decide) ?_
  refine g_aload (pc' := 31) rfl rfl rfl ?_
  refine g_new (pc' := 34) (k := 25) (sh' := SHk 26) rfl rfl (by decide +kernel) (SHk_l (by decide)) (zr_Z (by decide)) rfl rfl (by decide +kernel) ?_
  refine g_dup (pc' := 35) rfl rfl ?_
  show GR _ _ _ _ _ _ (SHk 26, Rf6, _, _, _)
  refine g_call (pc' := 38) (sh' := SHk 59) (RF' := Rf7) (S' := Z6 w) (as := [.inr (.inr ((25 : Nat) : Int))]) rfl rfl rfl k_X3_init (by omega) rfl rfl (by decide) ⟨_, _, rfl, shp_k (by decide +kernel)⟩ (by decide) rfl rfl rfl ?_
  refine g_putr (pc' := 41) rfl rfl rfl (shp_k (by decide +kernel)) (by decide) ?_
  refine g_aload (pc' := 42) rfl rfl rfl ?_
  refine g_new (pc' := 45) (k := 59) (sh' := SHk 60) rfl rfl (by decide +kernel) (SHk_l (by decide)) (zr_6 (by decide)) rfl rfl (by decide +kernel) ?_
  refine g_dup (pc' := 46) rfl rfl ?_
  refine g_call (pc' := 49) (sh' := SHk 61) (RF' := mx_up (mx_zr (mx_zr (mx_up (Rf7) ((0 : Nat) : Int) 2 ((25 : Nat) : Int)) 59 (-1)) 60 (-1)) ((59 : Nat) : Int) 0 ((60 : Nat) : Int)) (S' := Z6 w) (as := [.inr (.inr ((59 : Nat) : Int))]) rfl rfl rfl (by rw [show SHk 61 = SHk 60 ++ [(100, 7)] by decide +kernel]; exact (k_State (sh := SHk 60) (a := 59) (k := 60) (SHk_l (by decide)) (by decide +kernel) (zr_6 (by decide)))) (by omega) rfl rfl (by decide) ⟨_, _, rfl, shp_k (by decide +kernel)⟩ (by decide) rfl rfl rfl ?_
  refine g_putr (pc' := 52) rfl rfl rfl (shp_k (by decide +kernel)) (by decide) ?_
  refine g_aload (pc' := 53) rfl rfl rfl ?_
  refine g_new (pc' := 56) (k := 61) (sh' := SHk 62) rfl rfl (by decide +kernel) (SHk_l (by decide)) (zr_6 (by decide)) rfl rfl (by decide +kernel) ?_
  refine g_dup (pc' := 57) rfl rfl ?_
  show GR _ _ _ _ _ _ (SHk 62, Rf8, _, _, _)
  refine g_call (pc' := 60) (sh' := SHk 79) (RF' := Rf9) (S' := Z6 w) (as := [.inr (.inr ((61 : Nat) : Int))]) rfl rfl rfl k_X4_init (by omega) rfl rfl (by decide) ⟨_, _, rfl, shp_k (by decide +kernel)⟩ (by decide) rfl rfl rfl ?_
  refine g_putr (pc' := 63) rfl rfl rfl (shp_k (by decide +kernel)) (by decide) ?_
  refine g_aload (pc' := 64) rfl rfl rfl ?_
  refine g_const (pc' := 65) rfl rfl ?_
  refine g_anew (j := 2) (pc' := 68) (k := 79) (sh' := SHk 80) rfl rfl (by decide +kernel) (SHk_l (by decide)) (zr_6 (by decide)) rfl rfl (by decide +kernel) ?_
  refine g_putr (pc' := 71) rfl rfl rfl (shp_k (by decide +kernel)) (by decide) ?_
  refine g_aload (pc' := 72) rfl rfl rfl ?_
  refine g_const (pc' := 73) rfl rfl ?_
  refine g_newb (j := 2) (pc' := 75) (k := 80) (sh' := SHk 81) rfl rfl (by decide +kernel) (SHk_l (by decide)) (zr_6 (by decide)) rfl rfl (by decide +kernel) ?_
  refine g_putr (pc' := 78) rfl rfl rfl (shp_k (by decide +kernel)) (by decide) ?_
  refine g_aload (pc' := 79) rfl rfl rfl ?_
  refine g_new (pc' := 82) (k := 81) (sh' := SHk 82) rfl rfl (by decide +kernel) (SHk_l (by decide)) (zr_6 (by decide)) rfl rfl (by decide +kernel) ?_
  refine g_dup (pc' := 83) rfl rfl ?_
  show GR _ _ _ _ _ _ (SHk 82, Rf10, _, _, _)
  refine g_call (pc' := 86) (sh' := SHk 85) (RF' := Rf11) (S' := Z6 w) (as := [.inr (.inr ((81 : Nat) : Int))]) rfl rfl rfl k_X6_init (by omega) rfl rfl (by decide) ⟨_, _, rfl, shp_k (by decide +kernel)⟩ (by decide) rfl rfl rfl ?_
  refine g_putr (pc' := 89) rfl rfl rfl (shp_k (by decide +kernel)) (by decide) ?_
  refine g_aload (pc' := 90) rfl rfl rfl ?_
  refine g_new (pc' := 93) (k := 85) (sh' := SHk 86) rfl rfl (by decide +kernel) (SHk_l (by decide)) (zr_6 (by decide)) rfl rfl (by decide +kernel) ?_
  refine g_dup (pc' := 94) rfl rfl ?_
  show GR _ _ _ _ _ _ (SHk 86, Rf12, _, _, _)
  refine g_call (pc' := 97) (sh' := SHk 219) (RF' := Rf13) (S' := Z6 w) (as := [.inr (.inr ((85 : Nat) : Int))]) rfl rfl rfl k_X9_init (by omega) rfl rfl (by decide) ⟨_, _, rfl, shp_k (by decide +kernel)⟩ (by decide) rfl rfl rfl ?_
  refine g_putr (pc' := 100) rfl rfl rfl (shp_k (by decide +kernel)) (by decide) ?_
  refine g_aload (pc' := 101) rfl rfl rfl ?_
  refine g_const (pc' := 102) rfl rfl ?_
  refine g_anew (j := 4) (pc' := 105) (k := 219) (sh' := SHk 220) rfl rfl (by decide +kernel) (SHk_l (by decide)) (zr_6 (by decide)) rfl rfl (by decide +kernel) ?_
  refine g_putr (pc' := 108) rfl rfl rfl (shp_k (by decide +kernel)) (by decide) ?_
  refine g_const (pc' := 109) rfl rfl ?_
  refine g_istore (pc' := 110) (ls' := [some (.inr (.inr ((0 : Nat) : Int))), some (.inl 0)]) rfl rfl rfl rfl ?_
  refine g_iload (pc' := 111) rfl rfl rfl ?_
  refine g_const (pc' := 112) rfl rfl ?_
  refine g_ge0 (pc' := 115) rfl rfl (by decide) (by decide) ?_
  refine g_aload (pc' := 116) rfl rfl rfl ?_
  refine g_getr (pc' := 119) (v := ((79 : Nat) : Int)) rfl rfl rfl (shp_k (by decide +kernel)) (by decide +kernel) ?_
  refine g_iload (pc' := 120) rfl rfl rfl ?_
  refine g_new (pc' := 123) (k := 220) (sh' := SHk 221) rfl rfl (by decide +kernel) (SHk_l (by decide)) (zr_6 (by decide)) rfl rfl (by decide +kernel) ?_
  refine g_dup (pc' := 124) rfl rfl ?_
  refine g_call (pc' := 127) (sh' := SHk 222) (RF' := mx_up (mx_zr (mx_zr (mx_up (mx_zr (mx_up (Rf13) ((0 : Nat) : Int) 8 ((85 : Nat) : Int)) 219 (-1)) ((0 : Nat) : Int) 9 ((219 : Nat) : Int)) 220 (-1)) 221 (-1)) ((220 : Nat) : Int) 0 ((221 : Nat) : Int)) (S' := Z6 w) (as := [.inr (.inr ((220 : Nat) : Int))]) rfl rfl rfl (by rw [show SHk 222 = SHk 221 ++ [(100, 7)] by decide +kernel]; exact (k_State (sh := SHk 221) (a := 220) (k := 221) (SHk_l (by decide)) (by decide +kernel) (zr_6 (by decide)))) (by omega) rfl rfl (by decide) ⟨_, _, rfl, shp_k (by decide +kernel)⟩ (by decide) rfl rfl rfl ?_
  refine g_aast 103002 (pc' := 128) rfl rfl rfl (shp_k (by decide +kernel)) (by decide) (shp_k (by decide +kernel)) ?_
  refine g_iinc (pc' := 131) (ls' := [some (.inr (.inr ((0 : Nat) : Int))), some (.inl 1)]) rfl rfl rfl rfl rfl ?_
  refine g_goto (pc' := 110) rfl rfl ?_
  refine g_iload (pc' := 111) rfl rfl rfl ?_
  refine g_const (pc' := 112) rfl rfl ?_
  refine g_ge0 (pc' := 115) rfl rfl (by decide) (by decide) ?_
  refine g_aload (pc' := 116) rfl rfl rfl ?_
  refine g_getr (pc' := 119) (v := ((79 : Nat) : Int)) rfl rfl rfl (shp_k (by decide +kernel)) (by decide +kernel) ?_
  refine g_iload (pc' := 120) rfl rfl rfl ?_
  refine g_new (pc' := 123) (k := 222) (sh' := SHk 223) rfl rfl (by decide +kernel) (SHk_l (by decide)) (zr_6 (by decide)) rfl rfl (by decide +kernel) ?_
  refine g_dup (pc' := 124) rfl rfl ?_
  refine g_call (pc' := 127) (sh' := SHk 224) (RF' := mx_up (mx_zr (mx_zr (mx_up (mx_up (mx_zr (mx_zr (mx_up (mx_zr (mx_up (Rf13) ((0 : Nat) : Int) 8 ((85 : Nat) : Int)) 219 (-1)) ((0 : Nat) : Int) 9 ((219 : Nat) : Int)) 220 (-1)) 221 (-1)) ((220 : Nat) : Int) 0 ((221 : Nat) : Int)) ((79 : Nat) : Int) 0 ((220 : Nat) : Int)) 222 (-1)) 223 (-1)) ((222 : Nat) : Int) 0 ((223 : Nat) : Int)) (S' := Z6 w) (as := [.inr (.inr ((222 : Nat) : Int))]) rfl rfl rfl (by rw [show SHk 224 = SHk 223 ++ [(100, 7)] by decide +kernel]; exact (k_State (sh := SHk 223) (a := 222) (k := 223) (SHk_l (by decide)) (by decide +kernel) (zr_6 (by decide)))) (by omega) rfl rfl (by decide) ⟨_, _, rfl, shp_k (by decide +kernel)⟩ (by decide) rfl rfl rfl ?_
  refine g_aast 103002 (pc' := 128) rfl rfl rfl (shp_k (by decide +kernel)) (by decide) (shp_k (by decide +kernel)) ?_
  refine g_iinc (pc' := 131) (ls' := [some (.inr (.inr ((0 : Nat) : Int))), some (.inl 2)]) rfl rfl rfl rfl rfl ?_
  refine g_goto (pc' := 110) rfl rfl ?_
  refine g_iload (pc' := 111) rfl rfl rfl ?_
  refine g_const (pc' := 112) rfl rfl ?_
  refine g_ge1 (pc' := 134) rfl rfl (by decide) (by decide) ?_
  refine g_const (pc' := 135) rfl rfl ?_
  refine g_istore (pc' := 136) (ls' := [some (.inr (.inr ((0 : Nat) : Int))), some (.inl 0)]) rfl rfl rfl rfl ?_
  refine g_iload (pc' := 137) rfl rfl rfl ?_
  refine g_const (pc' := 138) rfl rfl ?_
  refine g_ge0 (pc' := 141) rfl rfl (by decide) (by decide) ?_
  refine g_aload (pc' := 142) rfl rfl rfl ?_
  refine g_getr (pc' := 145) (v := ((219 : Nat) : Int)) rfl rfl rfl (shp_k (by decide +kernel)) (by decide +kernel) ?_
  refine g_iload (pc' := 146) rfl rfl rfl ?_
  refine g_new (pc' := 149) (k := 224) (sh' := SHk 225) rfl rfl (by decide +kernel) (SHk_l (by decide)) (zr_6 (by decide)) rfl rfl (by decide +kernel) ?_
  refine g_dup (pc' := 150) rfl rfl ?_
  refine g_call (pc' := 153) (sh' := SHk 226) (RF' := mx_up (mx_zr (mx_zr (mx_up (mx_up (mx_zr (mx_zr (mx_up (mx_up (mx_zr (mx_zr (mx_up (mx_zr (mx_up (Rf13) ((0 : Nat) : Int) 8 ((85 : Nat) : Int)) 219 (-1)) ((0 : Nat) : Int) 9 ((219 : Nat) : Int)) 220 (-1)) 221 (-1)) ((220 : Nat) : Int) 0 ((221 : Nat) : Int)) ((79 : Nat) : Int) 0 ((220 : Nat) : Int)) 222 (-1)) 223 (-1)) ((222 : Nat) : Int) 0 ((223 : Nat) : Int)) ((79 : Nat) : Int) 1 ((222 : Nat) : Int)) 224 (-1)) 225 (-1)) ((224 : Nat) : Int) 3 ((225 : Nat) : Int)) (S' := Z6 w) (as := [.inr (.inr ((224 : Nat) : Int))]) rfl rfl rfl (by rw [show SHk 226 = SHk 225 ++ [(100, 24)] by decide +kernel]; exact (k_Shelf (sh := SHk 225) (a := 224) (k := 225) (SHk_l (by decide)) (by decide +kernel) (zr_6 (by decide)))) (by omega) rfl rfl (by decide) ⟨_, _, rfl, shp_k (by decide +kernel)⟩ (by decide) rfl rfl rfl ?_
  refine g_aast 104004 (pc' := 154) rfl rfl rfl (shp_k (by decide +kernel)) (by decide) (shp_k (by decide +kernel)) ?_
  refine g_iinc (pc' := 157) (ls' := [some (.inr (.inr ((0 : Nat) : Int))), some (.inl 1)]) rfl rfl rfl rfl rfl ?_
  refine g_goto (pc' := 136) rfl rfl ?_
  refine g_iload (pc' := 137) rfl rfl rfl ?_
  refine g_const (pc' := 138) rfl rfl ?_
  refine g_ge0 (pc' := 141) rfl rfl (by decide) (by decide) ?_
  refine g_aload (pc' := 142) rfl rfl rfl ?_
  refine g_getr (pc' := 145) (v := ((219 : Nat) : Int)) rfl rfl rfl (shp_k (by decide +kernel)) (by decide +kernel) ?_
  refine g_iload (pc' := 146) rfl rfl rfl ?_
  refine g_new (pc' := 149) (k := 226) (sh' := SHk 227) rfl rfl (by decide +kernel) (SHk_l (by decide)) (zr_6 (by decide)) rfl rfl (by decide +kernel) ?_
  refine g_dup (pc' := 150) rfl rfl ?_
  refine g_call (pc' := 153) (sh' := SHk 228) (RF' := mx_up (mx_zr (mx_zr (mx_up (mx_up (mx_zr (mx_zr (mx_up (mx_up (mx_zr (mx_zr (mx_up (mx_up (mx_zr (mx_zr (mx_up (mx_zr (mx_up (Rf13) ((0 : Nat) : Int) 8 ((85 : Nat) : Int)) 219 (-1)) ((0 : Nat) : Int) 9 ((219 : Nat) : Int)) 220 (-1)) 221 (-1)) ((220 : Nat) : Int) 0 ((221 : Nat) : Int)) ((79 : Nat) : Int) 0 ((220 : Nat) : Int)) 222 (-1)) 223 (-1)) ((222 : Nat) : Int) 0 ((223 : Nat) : Int)) ((79 : Nat) : Int) 1 ((222 : Nat) : Int)) 224 (-1)) 225 (-1)) ((224 : Nat) : Int) 3 ((225 : Nat) : Int)) ((219 : Nat) : Int) 0 ((224 : Nat) : Int)) 226 (-1)) 227 (-1)) ((226 : Nat) : Int) 3 ((227 : Nat) : Int)) (S' := Z6 w) (as := [.inr (.inr ((226 : Nat) : Int))]) rfl rfl rfl (by rw [show SHk 228 = SHk 227 ++ [(100, 24)] by decide +kernel]; exact (k_Shelf (sh := SHk 227) (a := 226) (k := 227) (SHk_l (by decide)) (by decide +kernel) (zr_6 (by decide)))) (by omega) rfl rfl (by decide) ⟨_, _, rfl, shp_k (by decide +kernel)⟩ (by decide) rfl rfl rfl ?_
  refine g_aast 104004 (pc' := 154) rfl rfl rfl (shp_k (by decide +kernel)) (by decide) (shp_k (by decide +kernel)) ?_
  refine g_iinc (pc' := 157) (ls' := [some (.inr (.inr ((0 : Nat) : Int))), some (.inl 2)]) rfl rfl rfl rfl rfl ?_
  refine g_goto (pc' := 136) rfl rfl ?_
  refine g_iload (pc' := 137) rfl rfl rfl ?_
  refine g_const (pc' := 138) rfl rfl ?_
  refine g_ge0 (pc' := 141) rfl rfl (by decide) (by decide) ?_
  refine g_aload (pc' := 142) rfl rfl rfl ?_
  refine g_getr (pc' := 145) (v := ((219 : Nat) : Int)) rfl rfl rfl (shp_k (by decide +kernel)) (by decide +kernel) ?_
  refine g_iload (pc' := 146) rfl rfl rfl ?_
  refine g_new (pc' := 149) (k := 228) (sh' := SHk 229) rfl rfl (by decide +kernel) (SHk_l (by decide)) (zr_6 (by decide)) rfl rfl (by decide +kernel) ?_
  refine g_dup (pc' := 150) rfl rfl ?_
  refine g_call (pc' := 153) (sh' := SHk 230) (RF' := mx_up (mx_zr (mx_zr (mx_up (mx_up (mx_zr (mx_zr (mx_up (mx_up (mx_zr (mx_zr (mx_up (mx_up (mx_zr (mx_zr (mx_up (mx_up (mx_zr (mx_zr (mx_up (mx_zr (mx_up (Rf13) ((0 : Nat) : Int) 8 ((85 : Nat) : Int)) 219 (-1)) ((0 : Nat) : Int) 9 ((219 : Nat) : Int)) 220 (-1)) 221 (-1)) ((220 : Nat) : Int) 0 ((221 : Nat) : Int)) ((79 : Nat) : Int) 0 ((220 : Nat) : Int)) 222 (-1)) 223 (-1)) ((222 : Nat) : Int) 0 ((223 : Nat) : Int)) ((79 : Nat) : Int) 1 ((222 : Nat) : Int)) 224 (-1)) 225 (-1)) ((224 : Nat) : Int) 3 ((225 : Nat) : Int)) ((219 : Nat) : Int) 0 ((224 : Nat) : Int)) 226 (-1)) 227 (-1)) ((226 : Nat) : Int) 3 ((227 : Nat) : Int)) ((219 : Nat) : Int) 1 ((226 : Nat) : Int)) 228 (-1)) 229 (-1)) ((228 : Nat) : Int) 3 ((229 : Nat) : Int)) (S' := Z6 w) (as := [.inr (.inr ((228 : Nat) : Int))]) rfl rfl rfl (by rw [show SHk 230 = SHk 229 ++ [(100, 24)] by decide +kernel]; exact (k_Shelf (sh := SHk 229) (a := 228) (k := 229) (SHk_l (by decide)) (by decide +kernel) (zr_6 (by decide)))) (by omega) rfl rfl (by decide) ⟨_, _, rfl, shp_k (by decide +kernel)⟩ (by decide) rfl rfl rfl ?_
  refine g_aast 104004 (pc' := 154) rfl rfl rfl (shp_k (by decide +kernel)) (by decide) (shp_k (by decide +kernel)) ?_
  refine g_iinc (pc' := 157) (ls' := [some (.inr (.inr ((0 : Nat) : Int))), some (.inl 3)]) rfl rfl rfl rfl rfl ?_
  refine g_goto (pc' := 136) rfl rfl ?_
  refine g_iload (pc' := 137) rfl rfl rfl ?_
  refine g_const (pc' := 138) rfl rfl ?_
  refine g_ge0 (pc' := 141) rfl rfl (by decide) (by decide) ?_
  refine g_aload (pc' := 142) rfl rfl rfl ?_
  refine g_getr (pc' := 145) (v := ((219 : Nat) : Int)) rfl rfl rfl (shp_k (by decide +kernel)) (by decide +kernel) ?_
  refine g_iload (pc' := 146) rfl rfl rfl ?_
  refine g_new (pc' := 149) (k := 230) (sh' := SHk 231) rfl rfl (by decide +kernel) (SHk_l (by decide)) (zr_6 (by decide)) rfl rfl (by decide +kernel) ?_
  refine g_dup (pc' := 150) rfl rfl ?_
  refine g_call (pc' := 153) (sh' := SHk 232) (RF' := mx_up (mx_zr (mx_zr (mx_up (mx_up (mx_zr (mx_zr (mx_up (mx_up (mx_zr (mx_zr (mx_up (mx_up (mx_zr (mx_zr (mx_up (mx_up (mx_zr (mx_zr (mx_up (mx_up (mx_zr (mx_zr (mx_up (mx_zr (mx_up (Rf13) ((0 : Nat) : Int) 8 ((85 : Nat) : Int)) 219 (-1)) ((0 : Nat) : Int) 9 ((219 : Nat) : Int)) 220 (-1)) 221 (-1)) ((220 : Nat) : Int) 0 ((221 : Nat) : Int)) ((79 : Nat) : Int) 0 ((220 : Nat) : Int)) 222 (-1)) 223 (-1)) ((222 : Nat) : Int) 0 ((223 : Nat) : Int)) ((79 : Nat) : Int) 1 ((222 : Nat) : Int)) 224 (-1)) 225 (-1)) ((224 : Nat) : Int) 3 ((225 : Nat) : Int)) ((219 : Nat) : Int) 0 ((224 : Nat) : Int)) 226 (-1)) 227 (-1)) ((226 : Nat) : Int) 3 ((227 : Nat) : Int)) ((219 : Nat) : Int) 1 ((226 : Nat) : Int)) 228 (-1)) 229 (-1)) ((228 : Nat) : Int) 3 ((229 : Nat) : Int)) ((219 : Nat) : Int) 2 ((228 : Nat) : Int)) 230 (-1)) 231 (-1)) ((230 : Nat) : Int) 3 ((231 : Nat) : Int)) (S' := Z6 w) (as := [.inr (.inr ((230 : Nat) : Int))]) rfl rfl rfl (by rw [show SHk 232 = SHk 231 ++ [(100, 24)] by decide +kernel]; exact (k_Shelf (sh := SHk 231) (a := 230) (k := 231) (SHk_l (by decide)) (by decide +kernel) (zr_6 (by decide)))) (by omega) rfl rfl (by decide) ⟨_, _, rfl, shp_k (by decide +kernel)⟩ (by decide) rfl rfl rfl ?_
  refine g_aast 104004 (pc' := 154) rfl rfl rfl (shp_k (by decide +kernel)) (by decide) (shp_k (by decide +kernel)) ?_
  refine g_iinc (pc' := 157) (ls' := [some (.inr (.inr ((0 : Nat) : Int))), some (.inl 4)]) rfl rfl rfl rfl rfl ?_
  refine g_goto (pc' := 136) rfl rfl ?_
  refine g_iload (pc' := 137) rfl rfl rfl ?_
  refine g_const (pc' := 138) rfl rfl ?_
  refine g_ge1 (pc' := 160) rfl rfl (by decide) (by decide) ?_
  exact g_ret rfl rfl rfl ⟨rfl, rfl⟩
def Rf15 : Int → Int → Int := mx_zr (Rf14) 232 (-1)
def Rf16 : Int → Int → Int := mx_up (mx_zr (mx_up (mx_zr (mx_up (mx_zr (mx_up (mx_zr (mx_up (mx_zr (mx_up (mx_zr (mx_up (mx_zr (mx_up (mx_zr (mx_up (mx_zr (mx_up (mx_zr (mx_up (mx_zr (mx_up (mx_zr (mx_up (mx_zr (mx_up (mx_zr (mx_up (mx_zr (mx_up (mx_zr (Rf15) 233 (-1)) ((232 : Nat) : Int) 0 ((233 : Nat) : Int)) 234 (-1)) ((232 : Nat) : Int) 1 ((234 : Nat) : Int)) 235 (-1)) ((232 : Nat) : Int) 2 ((235 : Nat) : Int)) 236 (-1)) ((232 : Nat) : Int) 3 ((236 : Nat) : Int)) 237 (-1)) ((232 : Nat) : Int) 4 ((237 : Nat) : Int)) 238 (-1)) ((232 : Nat) : Int) 6 ((238 : Nat) : Int)) 239 (-1)) ((232 : Nat) : Int) 7 ((239 : Nat) : Int)) 240 (-1)) ((232 : Nat) : Int) 8 ((240 : Nat) : Int)) 241 (-1)) ((232 : Nat) : Int) 10 ((241 : Nat) : Int)) 242 (-1)) ((232 : Nat) : Int) 12 ((242 : Nat) : Int)) 243 (-1)) ((232 : Nat) : Int) 13 ((243 : Nat) : Int)) 244 (-1)) ((232 : Nat) : Int) 14 ((244 : Nat) : Int)) 245 (-1)) ((232 : Nat) : Int) 21 ((245 : Nat) : Int)) 246 (-1)) ((232 : Nat) : Int) 22 ((246 : Nat) : Int)) 247 (-1)) ((232 : Nat) : Int) 23 ((247 : Nat) : Int)) 248 (-1)) ((232 : Nat) : Int) 24 ((248 : Nat) : Int)
theorem SHk_all : SHk 249 = mx_SH := by decide +kernel
/-- all references lie as they should -/
theorem Rf_ck : ((List.range 249).all fun a => match mx_SH[a]? with
  | some (kd, n) => (List.range (if kd < 10 then mx_nf kd else n)).all fun j => decide (Rf16 (a : Int) (j : Int) = mx_RF (a : Int) (j : Int))
  | none => true) = true := by decide +kernel
theorem Rf_eqv {S : Int → Int → Int} : mx_eqv (SHk 249, Rf16, S, 0, 0) (mx_mm S) := by
  refine ⟨SHk_all, rfl, rfl, rfl, fun a kd n j h hj => ⟨?_, rfl⟩⟩
  have h : mx_SH[a]? = some (kd, n) := by rw [← SHk_all]; exact h
  have ha : a < 249 := by
    rcases Nat.lt_or_ge a 249 with c | c
    · exact c
    · rw [List.getElem?_eq_none (by rw [show mx_SH.length = 249 by decide +kernel]; exact c)] at h
      cases h
  have q := List.all_eq_true.mp Rf_ck a (List.mem_range.mpr ha)
  rw [h] at q
  exact of_decide_eq_true (List.all_eq_true.mp q j (List.mem_range.mpr hj))
noncomputable def ZF (w : Int → Int → Int) : Int → Int → Int := mx_up (mx_up (mx_up (mx_up (begS (Z7 w)) 243 0 (-1)) 243 1 (-1)) 243 2 (-1)) 243 3 (-1)
theorem k_X11_init {w : Int → Int → Int} (hB : Bd (Z7 w)) : mx_call 3 87 [.inr (.inr ((232 : Nat) : Int))] (SHk 233, Rf15, Z6 w, 16, 913) (fun v m' => ∃ S', m' = mx_mm S' ∧ v = none ∧ S' = ZF w) := by
  refine GR.beg (ls := [some (.inr (.inr ((232 : Nat) : Int))), none]) rfl rfl rfl rfl rfl ?_
  refine g_aload (pc' := 1) rfl rfl rfl ?_
  refine g_obj (pc' := 4) rfl rfl ⟨by decide, by decide⟩ ?_
  refine g_aload (pc' := 5) rfl rfl rfl ?_
  refine g_const (pc' := 8) rfl rfl ?_
  refine g_newi (j := 187) (pc' := 10) (k := 233) (sh' := SHk 234) rfl rfl (by decide +kernel) (SHk_l (by decide)) (zr_6 (by decide)) rfl rfl (by decide +kernel) ?_
  refine g_putr (pc' := 13) rfl rfl rfl (shp_k (by decide +kernel)) (by decide) ?_
  refine g_aload (pc' := 14) rfl rfl rfl ?_
  refine g_const (pc' := 17) rfl rfl ?_
  refine g_newi (j := 187) (pc' := 19) (k := 234) (sh' := SHk 235) rfl rfl (by decide +kernel) (SHk_l (by decide)) (zr_6 (by decide)) rfl rfl (by decide +kernel) ?_
  refine g_putr (pc' := 22) rfl rfl rfl (shp_k (by decide +kernel)) (by decide) ?_
  refine g_aload (pc' := 23) rfl rfl rfl ?_
  refine g_const (pc' := 25) rfl rfl ?_
  refine g_newi (j := 49) (pc' := 27) (k := 235) (sh' := SHk 236) rfl rfl (by decide +kernel) (SHk_l (by decide)) (zr_6 (by decide)) rfl rfl (by decide +kernel) ?_
  refine g_putr (pc' := 30) rfl rfl rfl (shp_k (by decide +kernel)) (by decide) ?_
  refine g_aload (pc' := 31) rfl rfl rfl ?_
  refine g_const (pc' := 33) rfl rfl ?_
  refine g_newi (j := 12) (pc' := 35) (k := 236) (sh' := SHk 237) rfl rfl (by decide +kernel) (SHk_l (by decide)) (zr_6 (by decide)) rfl rfl (by decide +kernel) ?_
  refine g_putr (pc' := 38) rfl rfl rfl (shp_k (by decide +kernel)) (by decide) ?_
  refine g_aload (pc' := 39) rfl rfl rfl ?_
  refine g_const (pc' := 41) rfl rfl ?_
  refine g_newi (j := 96) (pc' := 43) (k := 237) (sh' := SHk 238) rfl rfl (by decide +kernel) (SHk_l (by decide)) (zr_6 (by decide)) rfl rfl (by decide +kernel) ?_
  refine g_putr (pc' := 46) rfl rfl rfl (shp_k (by decide +kernel)) (by decide) ?_
  refine g_aload (pc' := 47) rfl rfl rfl ?_
  refine g_const (pc' := 49) rfl rfl ?_
  refine g_newi (j := 24) (pc' := 51) (k := 238) (sh' := SHk 239) rfl rfl (by decide +kernel) (SHk_l (by decide)) (zr_6 (by decide)) rfl rfl (by decide +kernel) ?_
  refine g_putr (pc' := 54) rfl rfl rfl (shp_k (by decide +kernel)) (by decide) ?_
  refine g_aload (pc' := 55) rfl rfl rfl ?_
  refine g_const (pc' := 56) rfl rfl ?_
  refine g_newb (j := 2) (pc' := 58) (k := 239) (sh' := SHk 240) rfl rfl (by decide +kernel) (SHk_l (by decide)) (zr_6 (by decide)) rfl rfl (by decide +kernel) ?_
  refine g_putr (pc' := 61) rfl rfl rfl (shp_k (by decide +kernel)) (by decide) ?_
  refine g_aload (pc' := 62) rfl rfl rfl ?_
  refine g_const (pc' := 65) rfl rfl ?_
  refine g_newi (j := 200) (pc' := 67) (k := 240) (sh' := SHk 241) rfl rfl (by decide +kernel) (SHk_l (by decide)) (zr_6 (by decide)) rfl rfl (by decide +kernel) ?_
  refine g_putr (pc' := 70) rfl rfl rfl (shp_k (by decide +kernel)) (by decide) ?_
  refine g_aload (pc' := 71) rfl rfl rfl ?_
  refine g_const (pc' := 73) rfl rfl ?_
  refine g_newi (j := 18) (pc' := 75) (k := 241) (sh' := SHk 242) rfl rfl (by decide +kernel) (SHk_l (by decide)) (zr_6 (by decide)) rfl rfl (by decide +kernel) ?_
  refine g_putr (pc' := 78) rfl rfl rfl (shp_k (by decide +kernel)) (by decide) ?_
  refine g_aload (pc' := 79) rfl rfl rfl ?_
  refine g_const (pc' := 80) rfl rfl ?_
  refine g_newi (j := 4) (pc' := 82) (k := 242) (sh' := SHk 243) rfl rfl (by decide +kernel) (SHk_l (by decide)) (zr_6 (by decide)) rfl rfl (by decide +kernel) ?_
  refine g_putr (pc' := 85) rfl rfl rfl (shp_k (by decide +kernel)) (by decide) ?_
  refine g_aload (pc' := 86) rfl rfl rfl ?_
  refine g_const (pc' := 87) rfl rfl ?_
  refine g_newi (j := 4) (pc' := 89) (k := 243) (sh' := SHk 244) rfl rfl (by decide +kernel) (SHk_l (by decide)) (zr_6 (by decide)) rfl rfl (by decide +kernel) ?_
  refine g_putr (pc' := 92) rfl rfl rfl (shp_k (by decide +kernel)) (by decide) ?_
  refine g_aload (pc' := 93) rfl rfl rfl ?_
  refine g_const (pc' := 95) rfl rfl ?_
  refine g_newi (j := 96) (pc' := 97) (k := 244) (sh' := SHk 245) rfl rfl (by decide +kernel) (SHk_l (by decide)) (zr_6 (by decide)) rfl rfl (by decide +kernel) ?_
  refine g_putr (pc' := 100) rfl rfl rfl (shp_k (by decide +kernel)) (by decide) ?_
  refine g_aload (pc' := 101) rfl rfl rfl ?_
  refine g_const (pc' := 103) rfl rfl ?_
  refine g_newi (j := 8) (pc' := 105) (k := 245) (sh' := SHk 246) rfl rfl (by decide +kernel) (SHk_l (by decide)) (zr_6 (by decide)) rfl rfl (by decide +kernel) ?_
  refine g_putr (pc' := 108) rfl rfl rfl (shp_k (by decide +kernel)) (by decide) ?_
  refine g_aload (pc' := 109) rfl rfl rfl ?_
  refine g_const (pc' := 111) rfl rfl ?_
  refine g_newi (j := 9) (pc' := 113) (k := 246) (sh' := SHk 247) rfl rfl (by decide +kernel) (SHk_l (by decide)) (zr_6 (by decide)) rfl rfl (by decide +kernel) ?_
  refine g_putr (pc' := 116) rfl rfl rfl (shp_k (by decide +kernel)) (by decide) ?_
  refine g_aload (pc' := 117) rfl rfl rfl ?_
  refine g_const (pc' := 119) rfl rfl ?_
  refine g_newi (j := 9) (pc' := 121) (k := 247) (sh' := SHk 248) rfl rfl (by decide +kernel) (SHk_l (by decide)) (zr_6 (by decide)) rfl rfl (by decide +kernel) ?_
  refine g_putr (pc' := 124) rfl rfl rfl (shp_k (by decide +kernel)) (by decide) ?_
  refine g_aload (pc' := 125) rfl rfl rfl ?_
  refine g_const (pc' := 127) rfl rfl ?_
  refine g_newi (j := 8) (pc' := 129) (k := 248) (sh' := SHk 249) rfl rfl (by decide +kernel) (SHk_l (by decide)) (zr_6 (by decide)) rfl rfl (by decide +kernel) ?_
  refine g_putr (pc' := 132) rfl rfl rfl (shp_k (by decide +kernel)) (by decide) ?_
  refine g_aload (pc' := 133) rfl rfl rfl ?_
  refine g_getr (pc' := 136) (v := ((233 : Nat) : Int)) rfl rfl rfl (shp_k (by decide +kernel)) (by decide +kernel) ?_
  refine g_const (pc' := 139) rfl rfl ?_
  refine g_const (pc' := 141) rfl rfl ?_
  refine g_iast 187 (pc' := 142) rfl rfl (shp_k (by decide +kernel)) (by decide) ?_
  refine g_eqv Rf_eqv ?_
  show RS _ _ (fun v S' => v = none ∧ S' = ZF w) _ _ [] (Z7 w)
  refine r_aload (pc' := 143) rfl rfl rfl ?_
  refine q_callE (pc' := 146) (S2 := begS (Z7 w)) (st' := []) rfl rfl rfl (c_X11_begins hB) (by decide) rfl rfl (Nat.le_of_ble_eq_true rfl) (fun _ _ => ⟨_, _, rfl, rfl⟩) rfl rfl ?_
  refine r_const (pc' := 147) rfl rfl ?_
  refine r_istore (pc' := 148) (ls' := [some (.inr (.inr 232)), some (.inl 0)]) rfl rfl rfl rfl ?_
  refine r_iload (pc' := 149) rfl rfl rfl ?_
  refine r_const (pc' := 150) rfl rfl ?_
  refine r_icmp_ge0 (pc' := 153) rfl rfl (by decide) (by decide) ?_
  refine r_aload (pc' := 154) rfl rfl rfl ?_
  refine r_getr (pc' := 157) (v := 243) rfl rfl rfl rfl rfl ?_
  refine r_iload (pc' := 158) rfl rfl rfl ?_
  refine r_const (pc' := 159) rfl rfl ?_
  refine r_ast 4 (pc' := 160) rfl rfl rfl (by decide) ?_
  refine r_iinc (pc' := 163) (ls' := [some (.inr (.inr 232)), some (.inl 1)]) rfl rfl rfl rfl rfl ?_
  refine r_goto (pc' := 148) rfl rfl ?_
  refine r_iload (pc' := 149) rfl rfl rfl ?_
  refine r_const (pc' := 150) rfl rfl ?_
  refine r_icmp_ge0 (pc' := 153) rfl rfl (by decide) (by decide) ?_
  refine r_aload (pc' := 154) rfl rfl rfl ?_
  refine r_getr (pc' := 157) (v := 243) rfl rfl rfl rfl rfl ?_
  refine r_iload (pc' := 158) rfl rfl rfl ?_
  refine r_const (pc' := 159) rfl rfl ?_
  refine r_ast 4 (pc' := 160) rfl rfl rfl (by decide) ?_
  refine r_iinc (pc' := 163) (ls' := [some (.inr (.inr 232)), some (.inl 2)]) rfl rfl rfl rfl rfl ?_
  refine r_goto (pc' := 148) rfl rfl ?_
  refine r_iload (pc' := 149) rfl rfl rfl ?_
  refine r_const (pc' := 150) rfl rfl ?_
  refine r_icmp_ge0 (pc' := 153) rfl rfl (by decide) (by decide) ?_
  refine r_aload (pc' := 154) rfl rfl rfl ?_
  refine r_getr (pc' := 157) (v := 243) rfl rfl rfl rfl rfl ?_
  refine r_iload (pc' := 158) rfl rfl rfl ?_
  refine r_const (pc' := 159) rfl rfl ?_
  refine r_ast 4 (pc' := 160) rfl rfl rfl (by decide) ?_
  refine r_iinc (pc' := 163) (ls' := [some (.inr (.inr 232)), some (.inl 3)]) rfl rfl rfl rfl rfl ?_
  refine r_goto (pc' := 148) rfl rfl ?_
  refine r_iload (pc' := 149) rfl rfl rfl ?_
  refine r_const (pc' := 150) rfl rfl ?_
  refine r_icmp_ge0 (pc' := 153) rfl rfl (by decide) (by decide) ?_
  refine r_aload (pc' := 154) rfl rfl rfl ?_
  refine r_getr (pc' := 157) (v := 243) rfl rfl rfl rfl rfl ?_
  refine r_iload (pc' := 158) rfl rfl rfl ?_
  refine r_const (pc' := 159) rfl rfl ?_
  refine r_ast 4 (pc' := 160) rfl rfl rfl (by decide) ?_
  refine r_iinc (pc' := 163) (ls' := [some (.inr (.inr 232)), some (.inl 4)]) rfl rfl rfl rfl rfl ?_
  refine r_goto (pc' := 148) rfl rfl ?_
  refine r_iload (pc' := 149) rfl rfl rfl ?_
  refine r_const (pc' := 150) rfl rfl ?_
  refine r_icmp_ge1 (pc' := 166) rfl rfl (by decide) (by decide) ?_
  exact q_vret rfl rfl rfl ⟨rfl, rfl⟩
