/-! THE MACHINE IS SOUND, switches, the script, what is made -/
section SN4
variable {p : Program} {l : Launch} {e : Env} {R : Room} {s : State} {m : MethodId} {args : Array Value} {below : List Frame} {meth : Method} {c : Code} {Qf : State → Prop} {D : va_G} {cA : Nat → ClassId} {base b : Nat} {adK adV : Nat → Nat} {w0 : Int → Int} {M mcT msT : Nat}
theorem mx_lkup (x d : Int) : ∀ (ps : List (Int × Int)), (∀ q ∈ ps, x ≠ q.1) → Op.lookupswitch.offset ps d x = d
  | [], _ => rfl
  | q :: r, h => by
    have h1 := h q List.mem_cons_self
    have h2 := mx_lkup x d r (fun y hy => h y (List.mem_cons_of_mem _ hy))
    unfold Op.lookupswitch.offset
    rw [if_neg (Ne.symm h1)]
    exact h2

set_option maxHeartbeats 1000000 in
theorem mx_s_saload {n h : Nat} {z : Int} {x : mx_C}  (hX : mx_X M p s m args meth c D cA base b adK adV w0) (hd0 : mx_dk M x.1 (.saload) n z = true) (hp : (mx_nx (.saload) n z h x).1.getD True) (hJ : mx_J p l e R s m args below meth c Qf D cA base b adK w0 M mcT msT (mx_nx (.saload) n z h x).2) : mx_J p l e R s m args below meth c Qf D cA base b adK w0 M mcT msT x := by
  obtain ⟨pc, ls, st, mm⟩ := x
  obtain ⟨hx, hb, hml, hown, hts, hK, hbase, hE, hnm, hsc⟩ := hX
  intro H locs lsA cells slots h1 h2 h3 hl hP hS
  have hd := of_decide_eq_true (show decide _ = true from hd0)
  obtain ⟨rfl, rfl, hd⟩ := hd
  obtain ⟨Ls, xs, hX1, hX2, hX3, hX4, hX5⟩ := hsc rfl
  rcases st with _ | ⟨v1, st⟩
  · exact False.elim hp
  rcases st with _ | ⟨v2, st⟩
  · rcases v1 with a1 | a1 | a1 <;> exact False.elim hp
  rcases v1 with i | a1 | a1
  · rcases v2 with a2 | a2 | a2
    · exact False.elim hp
    · exact False.elim hp
    · obtain ⟨ha, hi1, hi2⟩ := hp
      subst ha
      have e0 : mm.2.2.1 (-2) = w0 := hP.2.1
      have hi2 : i < mm.2.2.1 (-2) (-1) := hi2
      rw [e0, hX4] at hi2
      obtain ⟨i1, i2, i3⟩ := mx_cl32 ⟨hi1, hi2⟩ hX3
      have hJ2 := hJ H locs lsA cells slots h1 h2 h3 hl hP hS
      refine va_sld (xs := xs) hx hb hX1 (by omega) (show ¬ base ≤ b by omega) hS i3 (mx_Dok hd) ?_
      rw [i2, ← hX5 i.toNat (by omega), Int.toNat_of_nonneg hi1, ← e0]
      exact hJ2
  · exact False.elim hp
  · exact False.elim hp

set_option maxHeartbeats 1000000 in
theorem mx_s_arraylength {n h : Nat} {z : Int} {x : mx_C}  (hX : mx_X M p s m args meth c D cA base b adK adV w0) (hd0 : mx_dk M x.1 (.arraylength) n z = true) (hp : (mx_nx (.arraylength) n z h x).1.getD True) (hJ : mx_J p l e R s m args below meth c Qf D cA base b adK w0 M mcT msT (mx_nx (.arraylength) n z h x).2) : mx_J p l e R s m args below meth c Qf D cA base b adK w0 M mcT msT x := by
  obtain ⟨pc, ls, st, mm⟩ := x
  obtain ⟨hx, hb, hml, hown, hts, hK, hbase, hE, hnm, hsc⟩ := hX
  intro H locs lsA cells slots h1 h2 h3 hl hP hS
  have hd := of_decide_eq_true (show decide _ = true from hd0)
  obtain ⟨rfl, rfl, hd⟩ := hd
  obtain ⟨Ls, xs, hX1, hX2, hX3, hX4, hX5⟩ := hsc rfl
  rcases st with _ | ⟨v2, st⟩
  · exact False.elim hp
  rcases v2 with a2 | a2 | a2
  · exact False.elim hp
  · exact False.elim hp
  · have ha : a2 = -2 := hp
    subst ha
    have e0 : mm.2.2.1 (-2) = w0 := hP.2.1
    have hJ2 := hJ H locs lsA cells slots h1 h2 h3 hl hP hS
    refine va_slen (xs := xs) hx hb hX1 (by omega) (show ¬ base ≤ b by omega) hS (mx_Dok hd) ?_
    have e9 : Int32.ofNat Ls = Int32.ofInt (mm.2.2.1 (-2) (-1)) := by rw [e0, hX4]; exact Int32.ofInt_eq_ofNat.symm
    rw [e9]
    exact hJ2

set_option maxHeartbeats 1000000 in
theorem mx_s_tsw {n h : Nat} {z : Int} {x : mx_C} {d lo hi : Int} {offs : Array Int} (hX : mx_X M p s m args meth c D cA base b adK adV w0) (hd0 : mx_dk M x.1 (.tableswitch d lo hi offs) n z = true) (hp : (mx_nx (.tableswitch d lo hi offs) n z h x).1.getD True) (hJ : mx_J p l e R s m args below meth c Qf D cA base b adK w0 M mcT msT (mx_nx (.tableswitch d lo hi offs) n z h x).2) : mx_J p l e R s m args below meth c Qf D cA base b adK w0 M mcT msT x := by
  obtain ⟨pc, ls, st, mm⟩ := x
  obtain ⟨hx, hb, hml, hown, hts, hK, hbase, hE, hnm, hsc⟩ := hX
  intro H locs lsA cells slots h1 h2 h3 hl hP hS
  simp only [mx_dk] at hd0
  split at hd0
  · rename_i d' lo' hi' offs' n' hD
    replace hd0 := of_decide_eq_true hd0
    obtain ⟨g1, g2, g3, g4, rfl, rfl, rfl, g5, rfl⟩ := hd0
    rcases st with _ | ⟨v1, st⟩
    · exact False.elim hp
    rcases v1 with a1 | a1 | a1
    · simp only [mx_nx] at hp hJ
      cases hh : Nat.blt h offs.size with
      | true =>
        rw [hh] at hp hJ
        obtain ⟨hr, hp⟩ := hp
        have hlt : h < offs.size := Nat.le_of_ble_eq_true hh
        have hlt2 : h < offs.toList.length := hlt
        have h6 := hJ H locs lsA cells slots h1 h2 h3 hl hP hS
        have e1 : offs.getD h 0 = offs.toList[h] := by rw [Array.getD_eq_getD_getElem?, Array.getElem?_eq_getElem hlt]; rfl
        have e2 : (0 : Int) ≤ offs.toList[h] := by simpa using List.all_eq_true.mp g2 _ (List.getElem_mem hlt2)
        refine lv_tableIn (off := offs.toList[h] - (pc : Int)) (tgt := (offs.toList[h]).toNat) hx hb (mx_Dok hD) ?_ ?_ ?_ ?_ ?_
        · rw [mx_t32 hr]; omega
        · rw [mx_t32 hr]; omega
        · rw [mx_t32 hr, hp, show (lo' + (h : Int) - lo').toNat = h by omega, ← Array.getElem?_toList, g5, List.getElem?_map, List.getElem?_eq_getElem hlt2]
          rfl
        · omega
        · have h7 := h6
          simp only [cond_true, e1] at h7
          exact h7
      | false =>
        rw [hh] at hp hJ
        obtain ⟨hr, hp⟩ := hp
        have h6 := hJ H locs lsA cells slots h1 h2 h3 hl hP hS
        exact lv_tableOut (tgt := d.toNat) hx hb (mx_Dok hD) (by rw [mx_t32 hr]; exact hp) (by omega) h6
    · exact False.elim hp
    · exact False.elim hp
  · cases hd0

theorem mx_lkin (d : Int) : ∀ (ps : List (Int × Int)) (h : Nat) (hh : h < ps.length), (ps.zip (ps.drop 1)).all (fun (a, next) => a.1 < next.1) = true → Op.lookupswitch.offset ps d (ps[h]).1 = (ps[h]).2
  | [], h, hh, _ => by simp at hh
  | q :: r, 0, hh, _ => by
    show Op.lookupswitch.offset (q :: r) d q.1 = q.2
    unfold Op.lookupswitch.offset
    rw [if_pos rfl]
  | q :: r, h + 1, hh, hs => by
    have hh2 : h < r.length := by simpa using hh
    have hs2 : (r.zip (r.drop 1)).all (fun (a, next) => a.1 < next.1) = true := by
      cases r with
      | nil => rfl
      | cons q2 r2 =>
        have : ((q :: q2 :: r2).zip ((q :: q2 :: r2).drop 1)) = (q, q2) :: ((q2 :: r2).zip ((q2 :: r2).drop 1)) := rfl
        rw [this, List.all_cons] at hs
        exact (Bool.and_eq_true_iff.mp hs).2
    have ih := mx_lkin d r h hh2 hs2
    have hlt : ∀ (r : List (Int × Int)) (q : Int × Int) (h : Nat) (hh : h < r.length), ((q :: r).zip ((q :: r).drop 1)).all (fun (a, next) => a.1 < next.1) = true → q.1 < (r[h]).1 := by
      intro r
      induction r with
      | nil => intro q h hh _; simp at hh
      | cons q2 r2 ihr =>
        intro q h hh hs
        have : ((q :: q2 :: r2).zip ((q :: q2 :: r2).drop 1)) = (q, q2) :: ((q2 :: r2).zip ((q2 :: r2).drop 1)) := rfl
        rw [this, List.all_cons] at hs
        obtain ⟨s1, s2⟩ := Bool.and_eq_true_iff.mp hs
        have s1 : q.1 < q2.1 := by simpa using s1
        cases h with
        | zero => exact s1
        | succ h =>
          have := ihr q2 h (by simpa using hh) s2
          show q.1 < (r2[h]'_).1
          omega
    have := hlt r q h hh2 hs
    show Op.lookupswitch.offset (q :: r) d (r[h]).1 = (r[h]).2
    unfold Op.lookupswitch.offset
    rw [if_neg (by omega)]
    exact ih

set_option maxHeartbeats 1000000 in
theorem mx_s_lsw {n h : Nat} {z : Int} {x : mx_C} {d : Int} {ps : Array (Int × Int)} (hX : mx_X M p s m args meth c D cA base b adK adV w0) (hd0 : mx_dk M x.1 (.lookupswitch d ps) n z = true) (hp : (mx_nx (.lookupswitch d ps) n z h x).1.getD True) (hJ : mx_J p l e R s m args below meth c Qf D cA base b adK w0 M mcT msT (mx_nx (.lookupswitch d ps) n z h x).2) : mx_J p l e R s m args below meth c Qf D cA base b adK w0 M mcT msT x := by
  obtain ⟨pc, ls, st, mm⟩ := x
  obtain ⟨hx, hb, hml, hown, hts, hK, hbase, hE, hnm, hsc⟩ := hX
  intro H locs lsA cells slots h1 h2 h3 hl hP hS
  simp only [mx_dk] at hd0
  split at hd0
  · rename_i d' ps' n' hD
    replace hd0 := of_decide_eq_true hd0
    obtain ⟨g1, g2, g3, rfl, g5, rfl⟩ := hd0
    rcases st with _ | ⟨v1, st⟩
    · exact False.elim hp
    rcases v1 with a1 | a1 | a1
    · simp only [mx_nx] at hp hJ
      cases hh : Nat.blt h ps.size with
      | true =>
        rw [hh] at hp hJ
        have hlt : h < ps.size := Nat.le_of_ble_eq_true hh
        have hlt2 : h < ps.toList.length := hlt
        have h6 := hJ H locs lsA cells slots h1 h2 h3 hl hP hS
        have e1 : ps.getD h (0, 0) = ps.toList[h] := by rw [Array.getD_eq_getD_getElem?, Array.getElem?_eq_getElem hlt]; rfl
        have e2 : (0 : Int) ≤ (ps.toList[h]).2 ∧ -2147483648 ≤ (ps.toList[h]).1 ∧ (ps.toList[h]).1 < 2147483648 := by simpa using List.all_eq_true.mp g2 _ (List.getElem_mem hlt2)
        have hlt3 : h < ps'.toList.length := by rw [g5, List.length_map]; exact hlt2
        have e3 : ps'.toList[h] = ((ps.toList[h]).1, (ps.toList[h]).2 - (pc : Int)) := by simp [g5]
        have hp : a1 = (ps.toList[h]).1 := by rw [← e1]; exact hp
        refine lv_lookup (off := (ps.toList[h]).2 - (pc : Int)) (tgt := ((ps.toList[h]).2).toNat) hx hb (mx_Dok hD) g3 ?_ ?_ ?_
        · rw [hp, mx_t32 e2.2]
          have h9 := mx_lkin (d - (pc : Int)) ps'.toList h hlt3 g3
          rw [e3] at h9
          exact h9
        · omega
        · have h7 := h6
          simp only [cond_true, e1] at h7
          exact h7
      | false =>
        rw [hh] at hp hJ
        obtain ⟨hr, hp⟩ := hp
        have h6 := hJ H locs lsA cells slots h1 h2 h3 hl hP hS
        refine lv_lookup (off := d - (pc : Int)) (tgt := d.toNat) hx hb (mx_Dok hD) g3 ?_ (by omega) h6
        rw [mx_t32 hr]
        refine mx_lkup _ _ _ (fun q hq => ?_)
        rw [g5] at hq
        obtain ⟨q2, hq2, rfl⟩ := List.mem_map.mp hq
        exact hp q2 hq2
    · exact False.elim hp
    · exact False.elim hp
  · cases hd0

end SN4
