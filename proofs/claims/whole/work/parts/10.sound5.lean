/-! THE MACHINE IS SOUND, what is made, rows copied -/
set_option maxRecDepth 100000 in
theorem mx_kl_ck : (mx_kl.all fun q => lw_tbl[q.2.2.2]? == some (.classLink (mx_on.getD q.1 "") q.2.1 (if q.2.2.1 < 10 then mx_on.getD q.2.2.1 "" else if q.2.2.1 = 102 then "[[I" else if q.2.2.1 = 103 then "HedgeReader$State" else "HedgeReader$Shelf")) && goodWord (.classLink (mx_on.getD q.1 "") q.2.1 (if q.2.2.1 < 10 then mx_on.getD q.2.2.1 "" else if q.2.2.1 = 102 then "[[I" else if q.2.2.1 = 103 then "HedgeReader$State" else "HedgeReader$Shelf"))) = true := by decide +kernel
theorem mx_kl_ok (q : Nat × Nat × Nat × Nat) (h : q ∈ mx_kl) : Cond.classLink (mx_on.getD q.1 "") q.2.1 (if q.2.2.1 < 10 then mx_on.getD q.2.2.1 "" else if q.2.2.1 = 102 then "[[I" else if q.2.2.1 = 103 then "HedgeReader$State" else "HedgeReader$Shelf") ∈ lw_tbl ∧ goodWord (Cond.classLink (mx_on.getD q.1 "") q.2.1 (if q.2.2.1 < 10 then mx_on.getD q.2.2.1 "" else if q.2.2.1 = 102 then "[[I" else if q.2.2.1 = 103 then "HedgeReader$State" else "HedgeReader$Shelf")) = true := mx_in (List.all_eq_true.mp mx_kl_ck q h)
set_option maxRecDepth 100000 in
theorem mx_ins_ck : ((List.range 10).all fun ci => (decide (Cond.instantiable (mx_on.getD ci "") (mx_nf ci) ∈ lw_tbl) && goodWord (.instantiable (mx_on.getD ci "") (mx_nf ci))) && ((decide (Cond.initialized (mx_on.getD ci "") ∈ lw_tbl) && goodWord (.initialized (mx_on.getD ci ""))) && decide ((mx_cl.getD ci ("", mT_X0, 0)).1 = mx_on.getD ci ""))) = true := by decide +kernel
theorem mx_ins_ok {ci : Nat} (h : ci < 10) : (Cond.instantiable (mx_on.getD ci "") (mx_nf ci) ∈ lw_tbl ∧ goodWord (.instantiable (mx_on.getD ci "") (mx_nf ci)) = true) ∧ (Cond.initialized (mx_on.getD ci "") ∈ lw_tbl ∧ goodWord (.initialized (mx_on.getD ci "")) = true) ∧ (mx_cl.getD ci ("", mT_X0, 0)).1 = mx_on.getD ci "" := by
  have h1 := List.all_eq_true.mp mx_ins_ck ci (List.mem_range.mpr h)
  simp only [Bool.and_eq_true, decide_eq_true_eq] at h1
  exact ⟨h1.1, h1.2.1, h1.2.2⟩
set_option maxRecDepth 100000 in
theorem mx_obj_ck : (mx_sl.all fun q => !(q.2.2.1 == 9) || (lw_tbl[q.2.2.2]? == some (.methodLink (mx_on.getD q.1 "") q.2.1 objectInit) && goodWord (.methodLink (mx_on.getD q.1 "") q.2.1 objectInit))) = true := by decide +kernel
theorem mx_obj_ok (q : Nat × Nat × Nat × Nat) (h : q ∈ mx_sl) (h9 : q.2.2.1 = 9) : Cond.methodLink (mx_on.getD q.1 "") q.2.1 objectInit ∈ lw_tbl ∧ goodWord (Cond.methodLink (mx_on.getD q.1 "") q.2.1 objectInit) = true := by
  have h1 := List.all_eq_true.mp mx_obj_ck q h
  rw [h9] at h1
  exact mx_in h1
set_option maxRecDepth 100000 in
theorem mx_cpy_ck : (mx_sl.all fun q => !(q.2.2.1 == 2) || (lw_tbl[q.2.2.2]? == some (.methodLink (mx_on.getD q.1 "") q.2.1 arraycopyName) && goodWord (.methodLink (mx_on.getD q.1 "") q.2.1 arraycopyName))) = true := by decide +kernel
theorem mx_cpy_ok (q : Nat × Nat × Nat × Nat) (h : q ∈ mx_sl) (h9 : q.2.2.1 = 2) : Cond.methodLink (mx_on.getD q.1 "") q.2.1 arraycopyName ∈ lw_tbl ∧ goodWord (Cond.methodLink (mx_on.getD q.1 "") q.2.1 arraycopyName) = true := by
  have h1 := List.all_eq_true.mp mx_cpy_ck q h
  rw [h9] at h1
  exact mx_in h1
set_option maxRecDepth 100000 in
theorem mx_min_ck : (mx_sl.all fun q => !(q.2.2.1 == 3) || (lw_tbl[q.2.2.2]? == some (.methodLink (mx_on.getD q.1 "") q.2.1 Lib.Math.min.name) && goodWord (.methodLink (mx_on.getD q.1 "") q.2.1 Lib.Math.min.name))) = true := by decide +kernel
theorem mx_min_ok (q : Nat × Nat × Nat × Nat) (h : q ∈ mx_sl) (h9 : q.2.2.1 = 3) : Cond.methodLink (mx_on.getD q.1 "") q.2.1 Lib.Math.min.name ∈ lw_tbl ∧ goodWord (Cond.methodLink (mx_on.getD q.1 "") q.2.1 Lib.Math.min.name) = true := by
  have h1 := List.all_eq_true.mp mx_min_ck q h
  rw [h9] at h1
  exact mx_in h1
set_option maxRecDepth 100000 in
theorem mx_max_ck : (mx_sl.all fun q => !(q.2.2.1 == 4) || (lw_tbl[q.2.2.2]? == some (.methodLink (mx_on.getD q.1 "") q.2.1 Lib.Math.max.name) && goodWord (.methodLink (mx_on.getD q.1 "") q.2.1 Lib.Math.max.name))) = true := by decide +kernel
theorem mx_max_ok (q : Nat × Nat × Nat × Nat) (h : q ∈ mx_sl) (h9 : q.2.2.1 = 4) : Cond.methodLink (mx_on.getD q.1 "") q.2.1 Lib.Math.max.name ∈ lw_tbl ∧ goodWord (Cond.methodLink (mx_on.getD q.1 "") q.2.1 Lib.Math.max.name) = true := by
  have h1 := List.all_eq_true.mp mx_max_ck q h
  rw [h9] at h1
  exact mx_in h1
def mx_few : List Cond := [.static Lib.Math.min.name, .static Lib.Math.max.name, .initialized "java/lang/Math", .code Lib.Math.min.name Lib.Math.min.code 2 (some .int), .code Lib.Math.max.name Lib.Math.max.code 2 (some .int), .instanceMethod objectInit, .code objectInit ⟨#[0xb1]⟩ 1 none, .native arraycopyName, .static arraycopyName, .initialized "java/lang/System", .arrayClass .int, .arrayClass .boolean]
set_option maxRecDepth 100000 in
theorem mx_few_ck : (mx_few.all fun w => decide (w ∈ lw_tbl) && goodWord w) = true := by decide +kernel
theorem mx_few_ok {w : Cond} (h : w ∈ mx_few) : w ∈ lw_tbl ∧ goodWord w = true := by
  have h1 := List.all_eq_true.mp mx_few_ck w h
  simp only [Bool.and_eq_true, decide_eq_true_eq] at h1
  exact h1
section SN5
variable {p : Program} {l : Launch} {e : Env} {R : Room} {s : State} {m : MethodId} {args : Array Value} {below : List Frame} {meth : Method} {c : Code} {Qf : State → Prop} {D : va_G} {cA : Nat → ClassId} {base b : Nat} {adK adV : Nat → Nat} {w0 : Int → Int} {M mcT msT : Nat}
theorem mx_P_grow {m m' : mx_M} {H H' : Heap} {xs : List (Nat × Nat)} (hP : mx_P D cA base b adK w0 m H) (hs : H'.size = H.size + xs.length) (ho : ∀ q : Nat, q < H.size → H'[q]? = H[q]?) (h1 : m'.1 = m.1 ++ xs)
    (h2 : ∀ (k : Nat), k < m.1.length → ∀ j : Nat, m'.2.1 k j = m.2.1 k j ∧ m'.2.2.1 k j = m.2.2.1 k j) (h3 : m'.2.2.1 (-2) = m.2.2.1 (-2)) (hn : ∀ i kd n, xs[i]? = some (kd, n) → mx_cel D cA base b adK m' H' (m.1.length + i) kd n) : mx_P D cA base b adK w0 m' H' := by
  refine ⟨by rw [hs, h1, List.length_append, hP.1]; omega, by rw [h3]; exact hP.2.1, fun k kd n hk => ?_⟩
  rw [h1] at hk
  by_cases hl : k < m.1.length
  · rw [List.getElem?_append_left hl] at hk
    refine mx_cel_congr (hP.2.2 k kd n hk) (fun j _ => (h2 k hl j).1) (fun j _ => (h2 k hl j).2) (ho _ ?_)
    rw [hP.1]; omega
  · rw [List.getElem?_append_right (by omega)] at hk
    have := hn _ _ _ hk
    rwa [show m.1.length + (k - m.1.length) = k by omega] at this
theorem mx_outer (c : ClassId) (N h0 : Nat) : ∀ i : Nat, Jvm.Free.Multi.outerC c N h0 i = arrV c N (fun j => va_rf (if j < i then some (h0 + 1 + j) else none))
  | 0 => by
    show ({ cls := c, slots := Array.replicate N .null, vm := .none } : Cell) = _
    rw [arrV_new]
    refine congrArg (arrV c N) (funext fun j => ?_)
    rw [if_neg (Nat.not_lt_zero j)]
    rfl
  | i + 1 => by
    show (Jvm.Free.Multi.outerC c N h0 i).setSlot i (.ref (h0 + 1 + i)) = _
    rw [mx_outer c N h0 i, arrV_store]
    refine congrArg (arrV c N) (funext fun j => ?_)
    unfold updV
    by_cases e : j = i
    · subst e
      rw [if_pos rfl, if_pos (Nat.lt_succ_self _)]
      rfl
    · rw [if_neg e]
      show va_rf (if j < i then some (h0 + 1 + j) else none) = va_rf (if j < i + 1 then some (h0 + 1 + j) else none)
      by_cases h : j < i
      · rw [if_pos h, if_pos (Nat.lt_succ_of_lt h)]
      · rw [if_neg h, if_neg (by omega)]
theorem mx_arrc {c : ClassId} {N : Nat} {f g : Nat → Value} (h : ∀ j, j < N → f j = g j) : arrV c N f = arrV c N g := by
  unfold arrV
  congr 2
  funext j
  exact h j.val j.isLt
theorem mx_S_grow {H H' : Heap} {locs : List Loc} (hS : va_S (fun q => base ≤ q) s.heap H locs) (hs : H.size ≤ H'.size) (ho : ∀ q : Nat, q < H.size → H'[q]? = H[q]?) : va_S (fun q => base ≤ q) s.heap H' locs :=
  ⟨Nat.le_trans hS.1 hs, fun q h1 h2 => (ho q (Nat.lt_of_lt_of_le h1 hS.1)).trans (hS.2.1 q h1 h2), hS.2.2⟩
theorem mx_zrl {S : Int → Int → Int} {n : Nat} {z : Int} {k : Nat} (h : k < n) (j : Int) : mx_zr S n z k j = S k j := by
  unfold mx_zr
  rw [if_neg (by omega)]
theorem mx_zrg {S : Int → Int → Int} {n : Nat} {z : Int} {k : Nat} (h : n ≤ k) (j : Int) : mx_zr S n z k j = z := by
  unfold mx_zr
  rw [if_pos (by omega)]
theorem mx_zr2 {S : Int → Int → Int} {n : Nat} {z : Int} : mx_zr S n z (-2) = S (-2) := funext fun j => by
  unfold mx_zr
  rw [if_neg (by omega)]
theorem mx_cvn : mx_cv base b adK (.inr (.inr (-1))) = .null := rfl
theorem mx_fv0 {m : mx_M} {kd k j : Nat} (hkd : kd < 10) (hj : j < mx_nf kd) (h1 : m.2.1 k j = -1) (h2 : m.2.2.1 k j = 0) : defaultValue (mx_pf kd j) = mx_fv base b adK m kd k j := by
  have h3 := (mx_fck_ok hkd hj).2
  unfold mx_fv
  rw [h1, h2]
  rcases hc : (mx_ft.getD kd []).getD j 0 with _ | _ | _ | _ | w
  · rw [hc] at h3
    rw [of_decide_eq_true h3]; rfl
  · rw [hc] at h3
    rw [of_decide_eq_true h3]; rfl
  · rw [hc] at h3
    have h3 : mx_isr (mx_pf kd j) = true := h3
    show _ = mx_cv base b adK (.inr (.inr (-1)))
    rw [mx_cvn]
    cases hp : mx_pf kd j <;> first | rfl | (rw [hp] at h3; cases h3)
  · rw [hc] at h3
    rw [of_decide_eq_true h3]; rfl
  · rw [hc] at h3; cases h3

set_option maxHeartbeats 1000000 in
theorem mx_s_new {n h : Nat} {z : Int} {x : mx_C} {q0 : Nat} (hX : mx_X M p s m args meth c D cA base b adK adV w0) (hR : mcT ≤ R.cells ∧ msT ≤ R.slots ∧ 1 ≤ R.frames ∧ 36 ≤ R.locals) (hd0 : mx_dk M x.1 (.new q0) n z = true) (hp : (mx_nx (.new q0) n z h x).1.getD True) (hJ : mx_J p l e R s m args below meth c Qf D cA base b adK w0 M mcT msT (mx_nx (.new q0) n z h x).2) : mx_J p l e R s m args below meth c Qf D cA base b adK w0 M mcT msT x := by
  obtain ⟨pc, ls, st, mm⟩ := x
  obtain ⟨hx, hb, hml, hown, hts, hK, hbase, hE, hnm, hsc⟩ := hX
  intro H locs lsA cells slots h1 h2 h3 hl hP hS
  have hP : mx_P D cA base b adK w0 mm H := hP
  have hd := List.any_eq_true.mp (show List.any _ _ = true from hd0)
  obtain ⟨q, hq, hd⟩ := hd
  replace hd := of_decide_eq_true hd
  obtain ⟨e1, rfl, rfl, hd⟩ := hd
  simp only [mx_nx] at hp hJ
  cases hg : (Nat.ble 1 mm.2.2.2.1 && (Nat.ble (mx_nf q.2.2.1) mm.2.2.2.2 && Nat.blt q.2.2.1 10)) with
  | false => rw [hg] at hp; exact False.elim hp
  | true =>
    rw [hg] at hJ
    simp only [Bool.and_eq_true] at hg
    obtain ⟨g1, g2, g3⟩ := hg
    have g1 := Nat.le_of_ble_eq_true g1
    have g2 := Nat.le_of_ble_eq_true g2
    have g3 : q.2.2.1 < 10 := Nat.le_of_ble_eq_true g3
    obtain ⟨k1, k2⟩ := mx_kl_ok q hq
    rw [e1, if_pos g3] at k1 k2
    obtain ⟨⟨i1, i2⟩, ⟨i3, i4⟩, i5⟩ := mx_ins_ok g3
    have hc := mx_cl_at g3
    have hKn := hK.1 _ _ hc
    have hN := mx_nf_ok g3
    have h1 : cells + mm.2.2.2.1 = mcT := h1
    have h2 : slots + mm.2.2.2.2 = msT := h2
    refine W.newcK (n := mx_nf q.2.2.1) hx hb hown (hts _ k1 k2) (hts _ i1 i2) (hts _ i3 i4) rfl (mx_Dok hd) (by omega) (by omega) (by rw [← i5]; exact hKn.2.1) rfl fun H1 kC hkC z1 z2 z3 => ?_
    have hP1 := mx_P_grow (m' := mx_new mm [(q.2.2.1, 0)] 1 (mx_nf q.2.2.1)) (xs := [(q.2.2.1, 0)]) hP z2 z3 rfl (fun k hk j => ⟨mx_zrl hk _, mx_zrl hk _⟩) mx_zr2 (fun i kd n hi => by
      have hz : i < 1 := (List.getElem?_eq_some_iff.mp hi).1
      rw [show i = 0 by omega] at hi ⊢
      cases hi
      refine Or.inl ⟨g3, ?_⟩
      have hb9 := u_born (o := H.size) (mx_pf q.2.2.1) (mx_gw_hts hts) (mx_inw hc) hKn hkC z1 (fun j hj => (mx_fck_ok g3 (by rw [← hN]; exact hj)).1)
      rw [hN] at hb9
      rw [show base + (mm.1.length + 0) = H.size by rw [hP.1]; rfl]
      exact hb9.to (fun j hj => mx_fv0 g3 hj (mx_zrg (Nat.le_add_right _ _) _) (mx_zrg (Nat.le_add_right _ _) _)))
    have h6 := hJ H1 locs lsA (cells + 1) (slots + mx_nf q.2.2.1) (by show cells + 1 + (mm.2.2.2.1 - 1) = mcT; omega) (by show slots + mx_nf q.2.2.1 + (mm.2.2.2.2 - mx_nf q.2.2.1) = msT; omega) h3 hl hP1 (mx_S_grow hS (by omega) z3)
    have e9 : mx_cv base b adK (.inr (.inr (mm.1.length : Int))) = .ref H.size := by rw [mx_cvr (Int.natCast_nonneg _), hP.1]; rfl
    rw [← e9]
    exact h6

set_option maxHeartbeats 1000000 in
theorem mx_s_newarray {n h : Nat} {z : Int} {x : mx_C} {t0 : ArrayType} (hX : mx_X M p s m args meth c D cA base b adK adV w0) (hR : mcT ≤ R.cells ∧ msT ≤ R.slots ∧ 1 ≤ R.frames ∧ 36 ≤ R.locals) (hd0 : mx_dk M x.1 (.newarray t0) n z = true) (hp : (mx_nx (.newarray t0) n z h x).1.getD True) (hJ : mx_J p l e R s m args below meth c Qf D cA base b adK w0 M mcT msT (mx_nx (.newarray t0) n z h x).2) : mx_J p l e R s m args below meth c Qf D cA base b adK w0 M mcT msT x := by
  obtain ⟨pc, ls, st, mm⟩ := x
  obtain ⟨hx, hb, hml, hown, hts, hK, hbase, hE, hnm, hsc⟩ := hX
  intro H locs lsA cells slots h1 h2 h3 hl hP hS
  have hP : mx_P D cA base b adK w0 mm H := hP
  have hd := of_decide_eq_true (show decide _ = true from hd0)
  obtain ⟨rfl, hd⟩ := hd
  have h1 : cells + mm.2.2.2.1 = mcT := h1
  have h2 : slots + mm.2.2.2.2 = msT := h2
  rcases st with _ | ⟨v1, st⟩
  · exact False.elim hp
  rcases v1 with a1 | a1 | a1
  · cases a1 with
    | negSucc k => exact False.elim hp
    | ofNat k =>
      simp only [mx_nx] at hp hJ
      cases t0
      · simp only at hp hJ
        cases hg : (Nat.ble 1 mm.2.2.2.1 && (Nat.ble k mm.2.2.2.2 && Nat.ble k 1000)) with
        | false => rw [hg] at hp; exact False.elim hp
        | true =>
          rw [hg] at hJ
          simp only [Bool.and_eq_true] at hg
          obtain ⟨g1, g2, g3⟩ := hg
          have g1 := Nat.le_of_ble_eq_true g1
          have g2 := Nat.le_of_ble_eq_true g2
          have g3 := Nat.le_of_ble_eq_true g3
          have hw := mx_few_ok (w := .arrayClass .boolean) (by simp [mx_few])
          have en : (Int32.ofInt (Int.ofNat k)).toNatClampNeg = k := by rw [show Int32.ofInt (Int.ofNat k) = nI k from mx_nI k]; exact nI_clamp (by omega)
          refine va_newaK (atype := .boolean) (N := k) hx hb (hts _ hw.1 hw.2) rfl (mx_Dok hd) rfl (by rw [show Int32.ofInt (Int.ofNat k) = nI k from mx_nI k]; exact nI_pos (by omega)) en (Nat.le_trans (Nat.mul_le_mul_left k (show componentBytes (newarray.typeOf .boolean) ≤ 4 by decide)) (by omega)) (by omega) (by omega) rfl fun H1 cB z1 z2 z3 z4 z5 => ?_
          have hcB : cB = cA 101 := Option.some.inj (z5.symm.trans (hK.2 1 _ rfl).2)
          subst hcB
          have hP1 := mx_P_grow (m' := mx_new mm [(101, k)] 1 k) (xs := [(101, k)]) hP z2 z3 rfl (fun k hk j => ⟨mx_zrl hk _, mx_zrl hk _⟩) mx_zr2 (fun i kd n hi => by
            have hz : i < 1 := (List.getElem?_eq_some_iff.mp hi).1
            rw [show i = 0 by omega] at hi ⊢
            cases hi
            refine Or.inr ⟨by omega, by omega, g3, ?_⟩
            rw [show base + (mm.1.length + 0) = H.size by rw [hP.1]; rfl]
            refine z1.trans (congrArg (fun f => some (arrV (cA 101) k f)) (funext fun j => ?_))
            unfold mx_el
            rw [if_pos (by decide)]
            show _ = Value.int (Int32.ofInt (mx_zr _ _ _ _ _))
            rw [mx_zrg (Nat.le_add_right _ _)]
            rfl)
          have h6 := hJ H1 locs lsA (cells + 1) (slots + k) (by show cells + 1 + (mm.2.2.2.1 - 1) = mcT; omega) (by show slots + k + (mm.2.2.2.2 - k) = msT; omega) h3 hl hP1 (mx_S_grow hS (by omega) z3)
          have e9 : mx_cv base b adK (.inr (.inr (mm.1.length : Int))) = .ref H.size := by rw [mx_cvr (Int.natCast_nonneg _), hP.1]; rfl
          rw [← e9]
          exact h6
      · exact False.elim hp
      · exact False.elim hp
      · exact False.elim hp
      · exact False.elim hp
      · exact False.elim hp
      · simp only at hp hJ
        cases hg : (Nat.ble 1 mm.2.2.2.1 && (Nat.ble k mm.2.2.2.2 && Nat.ble k 1000)) with
        | false => rw [hg] at hp; exact False.elim hp
        | true =>
          rw [hg] at hJ
          simp only [Bool.and_eq_true] at hg
          obtain ⟨g1, g2, g3⟩ := hg
          have g1 := Nat.le_of_ble_eq_true g1
          have g2 := Nat.le_of_ble_eq_true g2
          have g3 := Nat.le_of_ble_eq_true g3
          have hw := mx_few_ok (w := .arrayClass .int) (by simp [mx_few])
          have en : (Int32.ofInt (Int.ofNat k)).toNatClampNeg = k := by rw [show Int32.ofInt (Int.ofNat k) = nI k from mx_nI k]; exact nI_clamp (by omega)
          refine va_newaK (atype := .int) (N := k) hx hb (hts _ hw.1 hw.2) rfl (mx_Dok hd) rfl (by rw [show Int32.ofInt (Int.ofNat k) = nI k from mx_nI k]; exact nI_pos (by omega)) en (Nat.le_trans (Nat.mul_le_mul_left k (show componentBytes (newarray.typeOf .int) ≤ 4 by decide)) (by omega)) (by omega) (by omega) rfl fun H1 cB z1 z2 z3 z4 z5 => ?_
          have hcB : cB = cA 100 := Option.some.inj (z5.symm.trans (hK.2 0 _ rfl).2)
          subst hcB
          have hP1 := mx_P_grow (m' := mx_new mm [(100, k)] 1 k) (xs := [(100, k)]) hP z2 z3 rfl (fun k hk j => ⟨mx_zrl hk _, mx_zrl hk _⟩) mx_zr2 (fun i kd n hi => by
            have hz : i < 1 := (List.getElem?_eq_some_iff.mp hi).1
            rw [show i = 0 by omega] at hi ⊢
            cases hi
            refine Or.inr ⟨by omega, by omega, g3, ?_⟩
            rw [show base + (mm.1.length + 0) = H.size by rw [hP.1]; rfl]
            refine z1.trans (congrArg (fun f => some (arrV (cA 100) k f)) (funext fun j => ?_))
            unfold mx_el
            rw [if_pos (by decide)]
            show _ = Value.int (Int32.ofInt (mx_zr _ _ _ _ _))
            rw [mx_zrg (Nat.le_add_right _ _)]
            rfl)
          have h6 := hJ H1 locs lsA (cells + 1) (slots + k) (by show cells + 1 + (mm.2.2.2.1 - 1) = mcT; omega) (by show slots + k + (mm.2.2.2.2 - k) = msT; omega) h3 hl hP1 (mx_S_grow hS (by omega) z3)
          have e9 : mx_cv base b adK (.inr (.inr (mm.1.length : Int))) = .ref H.size := by rw [mx_cvr (Int.natCast_nonneg _), hP.1]; rfl
          rw [← e9]
          exact h6
      · exact False.elim hp
  · exact False.elim hp
  · exact False.elim hp

set_option maxHeartbeats 1000000 in
theorem mx_s_anewarray {n h : Nat} {z : Int} {x : mx_C} {q0 : Nat} (hX : mx_X M p s m args meth c D cA base b adK adV w0) (hR : mcT ≤ R.cells ∧ msT ≤ R.slots ∧ 1 ≤ R.frames ∧ 36 ≤ R.locals) (hd0 : mx_dk M x.1 (.anewarray q0) n z = true) (hp : (mx_nx (.anewarray q0) n z h x).1.getD True) (hJ : mx_J p l e R s m args below meth c Qf D cA base b adK w0 M mcT msT (mx_nx (.anewarray q0) n z h x).2) : mx_J p l e R s m args below meth c Qf D cA base b adK w0 M mcT msT x := by
  obtain ⟨pc, ls, st, mm⟩ := x
  obtain ⟨hx, hb, hml, hown, hts, hK, hbase, hE, hnm, hsc⟩ := hX
  intro H locs lsA cells slots h1 h2 h3 hl hP hS
  have hP : mx_P D cA base b adK w0 mm H := hP
  have hd := List.any_eq_true.mp (show List.any _ _ = true from hd0)
  obtain ⟨q, hq, hd⟩ := hd
  replace hd := of_decide_eq_true hd
  obtain ⟨e1, rfl, rfl, hd⟩ := hd
  have h1 : cells + mm.2.2.2.1 = mcT := h1
  have h2 : slots + mm.2.2.2.2 = msT := h2
  rcases st with _ | ⟨v1, st⟩
  · exact False.elim hp
  rcases v1 with a1 | a1 | a1
  · cases a1 with
    | negSucc k => exact False.elim hp
    | ofNat k =>
      simp only [mx_nx] at hp hJ
      cases hg : (Nat.ble 1 mm.2.2.2.1 && (Nat.ble k mm.2.2.2.2 && (Nat.ble k 999 && (Nat.ble 103 q.2.2.1 && Nat.ble q.2.2.1 104)))) with
      | false => rw [hg] at hp; exact False.elim hp
      | true =>
        rw [hg] at hJ
        simp only [Bool.and_eq_true] at hg
        obtain ⟨g1, g2, g3, g4, g5⟩ := hg
        have g1 := Nat.le_of_ble_eq_true g1
        have g2 := Nat.le_of_ble_eq_true g2
        have g3 := Nat.le_of_ble_eq_true g3
        have g4 := Nat.le_of_ble_eq_true g4
        have g5 := Nat.le_of_ble_eq_true g5
        obtain ⟨k1, k2⟩ := mx_kl_ok q hq
        have hC : ∃ C : String, (if q.2.2.1 < 10 then mx_on.getD q.2.2.1 "" else if q.2.2.1 = 102 then "[[I" else if q.2.2.1 = 103 then "HedgeReader$State" else "HedgeReader$Shelf") = C ∧ va_AO C s ∧ va_RA s (cA q.2.2.1) (.object C) := by
          rcases (show q.2.2.1 = 103 ∨ q.2.2.1 = 104 by omega) with r | r <;> rw [r]
          · exact ⟨_, rfl, hE.2.1.1, (hK.2 3 _ rfl).2⟩
          · exact ⟨_, rfl, hE.2.1.2.1, (hK.2 4 _ rfl).2⟩
        obtain ⟨C, hC1, hC2, hC3⟩ := hC
        rw [e1, hC1] at k1 k2
        have en : (Int32.ofInt (Int.ofNat k)).toNatClampNeg = k := by rw [show Int32.ofInt (Int.ofNat k) = nI k from mx_nI k]; exact nI_clamp (by omega)
        refine W.anew hx hb hown (hts _ k1 k2) (va_AO.use hC2) rfl (mx_Dok hd) rfl (by rw [show Int32.ofInt (Int.ofNat k) = nI k from mx_nI k]; exact nI_pos (by omega)) (by rw [en]; omega) (by omega) (by rw [en]; omega) fun cB kA comp y1 y2 y3 y4 => ?_
        have hcB : cB = cA q.2.2.1 := by
          obtain ⟨_, _, -, -, -, r4⟩ := hC3
          exact Option.some.inj (y1.symm.trans r4)
        subst hcB
        rw [en]
        generalize hH1 : H.push ({ cls := cA q.2.2.1, slots := Array.replicate k .null, vm := .none } : Cell) = H1
        have z2 : H1.size = H.size + 1 := by rw [← hH1, Array.size_push]
        have z1 : H1[H.size]? = some (arrV (cA q.2.2.1) k (fun _ => .null)) := by rw [← hH1, Array.getElem?_push_size, ← arrV_new]
        have z3 : ∀ z : Nat, z < H.size → H1[z]? = H[z]? := fun z hz => by rw [← hH1, Array.getElem?_push, if_neg (Nat.ne_of_lt hz)]
        have hP1 := mx_P_grow (m' := mx_new mm [(q.2.2.1, k)] 1 k) (xs := [(q.2.2.1, k)]) hP z2 z3 rfl (fun k hk j => ⟨mx_zrl hk _, mx_zrl hk _⟩) mx_zr2 (fun i kd n hi => by
          have hz : i < 1 := (List.getElem?_eq_some_iff.mp hi).1
          rw [show i = 0 by omega] at hi ⊢
          cases hi
          refine Or.inr ⟨by omega, by omega, by omega, ?_⟩
          rw [show base + (mm.1.length + 0) = H.size by rw [hP.1]; rfl]
          refine z1.trans (congrArg (fun f => some (arrV (cA q.2.2.1) k f)) (funext fun j => ?_))
          unfold mx_el
          rw [if_neg (by omega)]
          show _ = mx_cv base b adK (.inr (.inr (mx_zr _ _ _ _ _)))
          rw [mx_zrg (Nat.le_add_right _ _)]
          rfl)
        have h6 := hJ H1 locs lsA (cells + 1) (slots + k) (by show cells + 1 + (mm.2.2.2.1 - 1) = mcT; omega) (by show slots + k + (mm.2.2.2.2 - k) = msT; omega) h3 hl hP1 (mx_S_grow hS (by omega) z3)
        have e9 : mx_cv base b adK (.inr (.inr (mm.1.length : Int))) = .ref H.size := by rw [mx_cvr (Int.natCast_nonneg _), hP.1]; rfl
        rw [← e9]
        exact h6
  · exact False.elim hp
  · exact False.elim hp

set_option maxHeartbeats 1000000 in
theorem mx_s_obj {n h : Nat} {z : Int} {x : mx_C}  (hX : mx_X M p s m args meth c D cA base b adK adV w0) (hR : mcT ≤ R.cells ∧ msT ≤ R.slots ∧ 1 ≤ R.frames ∧ 36 ≤ R.locals) (hd0 : mx_dk M x.1 (.invokedynamic 9) n z = true) (hp : (mx_nx (.invokedynamic 9) n z h x).1.getD True) (hJ : mx_J p l e R s m args below meth c Qf D cA base b adK w0 M mcT msT (mx_nx (.invokedynamic 9) n z h x).2) : mx_J p l e R s m args below meth c Qf D cA base b adK w0 M mcT msT x := by
  obtain ⟨pc, ls, st, mm⟩ := x
  obtain ⟨hx, hb, hml, hown, hts, hK, hbase, hE, hnm, hsc⟩ := hX
  intro H locs lsA cells slots h1 h2 h3 hl hP hS
  have hP : mx_P D cA base b adK w0 mm H := hP
  have hd := List.any_eq_true.mp (show List.any _ _ = true from hd0)
  obtain ⟨q, hq, hd⟩ := hd
  replace hd := of_decide_eq_true hd
  obtain ⟨e1, e2, rfl, hd⟩ := hd
  obtain ⟨k1, k2⟩ := mx_obj_ok q hq e2
  rw [e1] at k1 k2
  have hw1 := mx_few_ok (w := .instanceMethod objectInit) (by simp [mx_few])
  have hw2 := mx_few_ok (w := .code objectInit ⟨#[0xb1]⟩ 1 none) (by simp [mx_few])
  rcases st with _ | ⟨v1, st⟩
  · exact False.elim hp
  rcases v1 with a1 | a1 | a1
  · exact False.elim hp
  · exact False.elim hp
  obtain ⟨ha, hst⟩ := hp
  have hsum : ((st.map (mx_cv base b adK)).map fun v => v.category).sum ≤ 8 := by
    rw [List.map_map]
    rw [show ((fun v => Value.category v) ∘ mx_cv base b adK) = mx_cat from funext fun v => mx_cvcat _ _ _ v]
    exact hst
  show W _ _ _ _ _ _ _ _ _ _ _ _ _ _ _ (F0 _ _ _ (mx_cv base b adK (.inr (.inr a1)) :: _))
  rw [mx_cvr ha]
  refine W.objInit hx hb hown (hts _ k1 k2) (hts _ hw1.1 hw1.2) (hts _ hw2.1 hw2.2) rfl (by rw [hml]; exact hl.1) rfl (mx_Dok (show mx_D M pc = some (.invokespecial q.2.1, 3) from hd)) hR.2.2.1 ?_ ?_
  · have := lv_room (m := m) (pc := pc) (ls := lsA) (rest := Value.ref (base + a1.toNat) :: st.map (mx_cv base b adK)) hsum
    show 2 * _ + _ + 12 ≤ _
    have h36 := hR.2.2.2
    exact Nat.le_trans (Nat.add_le_add_right this 12) (by omega)
  · exact W.eq (g2 := F0 m (pc + 3) lsA (st.map (mx_cv base b adK))) rfl (hJ H locs lsA cells slots h1 h2 h3 hl hP hS)

set_option maxHeartbeats 1000000 in
theorem mx_s_cpy {n h : Nat} {z : Int} {x : mx_C}  (hX : mx_X M p s m args meth c D cA base b adK adV w0) (hR : mcT ≤ R.cells ∧ msT ≤ R.slots ∧ 1 ≤ R.frames ∧ 36 ≤ R.locals) (hd0 : mx_dk M x.1 (.invokedynamic 2) n z = true) (hp : (mx_nx (.invokedynamic 2) n z h x).1.getD True) (hJ : mx_J p l e R s m args below meth c Qf D cA base b adK w0 M mcT msT (mx_nx (.invokedynamic 2) n z h x).2) : mx_J p l e R s m args below meth c Qf D cA base b adK w0 M mcT msT x := by
  obtain ⟨pc, ls, st, mm⟩ := x
  obtain ⟨hx, hb, hml, hown, hts, hK, hbase, hE, hnm, hsc⟩ := hX
  intro H locs lsA cells slots h1 h2 h3 hl hP hS
  have hP : mx_P D cA base b adK w0 mm H := hP
  have hd := List.any_eq_true.mp (show List.any _ _ = true from hd0)
  obtain ⟨q, hq, hd⟩ := hd
  replace hd := of_decide_eq_true hd
  obtain ⟨e1, e2, rfl, hd⟩ := hd
  obtain ⟨k1, k2⟩ := mx_cpy_ok q hq e2
  rw [e1] at k1 k2
  have hw1 := mx_few_ok (w := .native arraycopyName) (by simp [mx_few])
  have hw2 := mx_few_ok (w := .static arraycopyName) (by simp [mx_few])
  have hw3 := mx_few_ok (w := .initialized "java/lang/System") (by simp [mx_few])
  rcases st with _ | ⟨v1, st⟩
  · exact False.elim hp
  rcases v1 with k | a1 | a1
  case inr.inl => exact False.elim hp
  case inr.inr => exact False.elim hp
  rcases st with _ | ⟨v2, st⟩
  · exact False.elim hp
  rcases v2 with j | a1 | a1
  case inr.inl => exact False.elim hp
  case inr.inr => exact False.elim hp
  rcases st with _ | ⟨v3, st⟩
  · exact False.elim hp
  rcases v3 with a1 | a1 | b1
  case inl => exact False.elim hp
  case inr.inl => exact False.elim hp
  rcases st with _ | ⟨v4, st⟩
  · exact False.elim hp
  rcases v4 with i | a1 | a1
  case inr.inl => exact False.elim hp
  case inr.inr => exact False.elim hp
  rcases st with _ | ⟨v5, st⟩
  · exact False.elim hp
  rcases v5 with a1 | a1 | a1
  case inl => exact False.elim hp
  case inr.inl => exact False.elim hp
  obtain ⟨⟨hp1, hp2, hst⟩, hi, hj, hk0⟩ := hp
  obtain ⟨ka, rfl, hka⟩ := mx_shpk hp1 (by omega)
  obtain ⟨kb, rfl, hkb⟩ := mx_shpk hp2 (by omega)
  rcases hP.2.2 ka _ _ hka with ⟨q0, -⟩ | ⟨-, -, hn, hcA⟩
  · omega
  rcases hP.2.2 kb _ _ hkb with ⟨q0, -⟩ | ⟨-, -, -, hcB⟩
  · omega
  obtain ⟨ni, rfl⟩ := Int.eq_ofNat_of_zero_le hi.1
  obtain ⟨nj, rfl⟩ := Int.eq_ofNat_of_zero_le hj.1
  obtain ⟨nk, rfl⟩ := Int.eq_ofNat_of_zero_le hk0
  have hsum : ((st.map (mx_cv base b adK)).map fun v => v.category).sum ≤ 8 := by
    rw [List.map_map]
    rw [show ((fun v => Value.category v) ∘ mx_cv base b adK) = mx_cat from funext fun v => mx_cvcat _ _ _ v]
    exact hst
  show W _ _ _ _ _ _ _ _ _ _ _ _ _ _ _ (F0 _ _ _ (.int (Int32.ofInt (nk : Int)) :: .int (Int32.ofInt (nj : Int)) :: mx_cv base b adK (.inr (.inr (kb : Int))) :: .int (Int32.ofInt (ni : Int)) :: mx_cv base b adK (.inr (.inr (ka : Int))) :: _))
  rw [mx_cvr (Int.natCast_nonneg ka), mx_cvr (Int.natCast_nonneg kb), mx_nI, mx_nI, mx_nI]
  show W _ _ _ _ _ _ _ _ _ _ _ _ _ _ _ (F0 _ _ _ (.int (nI nk) :: .int (nI nj) :: .ref (base + kb) :: .int (nI ni) :: .ref (base + ka) :: _))
  have cI : nk < 2 ^ 31 ∧ ni < 2 ^ 31 ∧ nj < 2 ^ 31 := by omega
  have hIsA := (hK.2 0 _ rfl).1 h (mx_el base b adK mm 100 ka)
  have hIsB := (hK.2 0 _ rfl).1 h (mx_el base b adK mm 100 kb)
  have e3 : ∀ k, mx_el base b adK mm 100 k = fun j : Nat => .int (Int32.ofInt (mm.2.2.1 k j)) := fun k => funext fun j => by unfold mx_el; rw [if_pos (by decide)]
  rw [show (pc, ls, Sum.inl (nk : Int) :: Sum.inl (nj : Int) :: Sum.inr (Sum.inr (kb : Int)) :: Sum.inl (ni : Int) :: Sum.inr (Sum.inr (ka : Int)) :: st, mm).2.2.2 = mm from rfl] at hcA hcB
  rw [e3] at hcA hcB hIsA hIsB
  obtain ⟨-, y0, hy0, cm0, hyy0⟩ := hIsA
  obtain ⟨-, y1, hy1, cm1, hyy1⟩ := hIsB
  intro T hT X
  obtain ⟨vm', X', step⟩ := X.arraycopy hx hown (hts _ k1 k2) (hts _ hw1.1 hw1.2) (hts _ hw2.1 hw2.2) (hts _ hw3.1 hw3.2) (src := base + ka) (dst := base + kb) (srcPos := nI ni) (destPos := nI nj) (n := nI nk) (by rw [hT]; exact hcA) (by rw [hT]; exact hcB)
    (fun _ h => by cases h) (fun _ h => by cases h) (fun h => by cases h) (fun h => by cases h) hy0 hy1 hyy0 hyy1 (by rfl) (nI_pos cI.2.1) (nI_pos cI.2.2) (nI_pos cI.1)
    (by rw [nI_toInt cI.1, nI_toInt cI.2.1]; show ¬ _ > ((arrV _ _ _).slots.size : Int); rw [arrV_size]; omega)
    (by rw [nI_toInt cI.1, nI_toInt cI.2.2]; show ¬ _ > ((arrV _ _ _).slots.size : Int); rw [arrV_size]; omega)
    (fun vm₁ _ i hi9 => by
      rw [nI_clamp cI.1] at hi9
      rw [nI_clamp cI.2.1]
      have e : (arrV (cA 100) h (fun j : Nat => .int (Int32.ofInt (mm.2.2.1 ka j)))).slots.getD (ni + i) .null = .int (Int32.ofInt (mm.2.2.1 ka ((ni + i : Nat) : Int))) := by
        rw [Array.getD_eq_getD_getElem?, arrV_read _ _ (by omega)]
        rfl
      rw [e]
      exact ⟨rfl, trivial⟩)
    (g := F0 m pc lsA (.int (nI nk) :: .int (nI nj) :: .ref (base + kb) :: .int (nI ni) :: .ref (base + ka) :: st.map (mx_cv base b adK))) rfl (by rw [hml]; exact hl.1) rfl (by rw [hb]; exact mx_Dok (show mx_D M pc = some (.invokestatic q.2.1, 3) from hd)) hR.2.2.1 (by have h36 := hR.2.2.2; have : nativeFrameWords "java/lang/System" "arraycopy" 5 = 7 := by decide +kernel
                                                                                                                                                                                                                                                                              show 2 * 0 + _ + _ ≤ _; omega)
  have e1 : copied (arrV (cA 100) h (fun j : Nat => .int (Int32.ofInt (mm.2.2.1 ka j)))) (arrV (cA 100) h (fun j : Nat => .int (Int32.ofInt (mm.2.2.1 kb j)))) (nI ni) (nI nj) (nI nk) = arrV (cA 100) h (fun j => .int (va_cpy (fun j : Nat => Int32.ofInt (mm.2.2.1 ka j)) (fun j : Nat => Int32.ofInt (mm.2.2.1 kb j)) ni nj nk j)) := by
    have := va_copied (fun z => .int z) (cA 100) (cA 100) (n0 := h) (n1 := h) (sp := ni) (dp := nj) (n := nk) (fun j : Nat => Int32.ofInt (mm.2.2.1 ka j)) (fun j : Nat => Int32.ofInt (mm.2.2.1 kb j)) (by omega)
    rw [← this]
    show Cell.storeRun _ _ _ = _
    rw [nI_clamp cI.1, nI_clamp cI.2.1, nI_clamp cI.2.2]
  rw [e1] at X' step
  have hlB : base + kb < H.size := (Array.getElem?_eq_some_iff.mp hcB).1
  generalize hN : arrV (cA 100) h (fun j => .int (va_cpy (fun j : Nat => Int32.ofInt (mm.2.2.1 ka j)) (fun j : Nat => Int32.ofInt (mm.2.2.1 kb j)) ni nj nk j)) = newc at X' step
  have hheap : ((T.setVm vm').setCell (base + kb) newc).heap = H.setIfInBounds (base + kb) newc := by rw [← hT]; rfl
  have oq : ∀ z : Nat, z ≠ base + kb → (H.setIfInBounds (base + kb) newc)[z]? = H[z]? := fun z hz => by simp [Array.getElem?_setIfInBounds, Ne.symm hz]
  have hz2 : (H.setIfInBounds (base + kb) newc).size = H.size := by simp
  have hcpo : ∀ (a : Int), a ≠ (kb : Int) → mx_cp mm.2.2.1 ka ni kb nj nk a = mm.2.2.1 a := fun a ha => funext fun y => by unfold mx_cp; rw [if_neg (fun q => ha q.1)]
  have hP1 := mx_P_upd (m' := (mm.1, mm.2.1, mx_cp mm.2.2.1 ka ni kb nj nk, mm.2.2.2)) hP hkb hz2 oq rfl (fun a ha => ⟨rfl, hcpo a ha⟩) (Or.inr ⟨by omega, by omega, hn, by
    rw [show (H.setIfInBounds (base + kb) newc)[base + kb]? = some newc by simp [Array.getElem?_setIfInBounds, hlB], ← hN]
    refine congrArg (fun f => some (arrV (cA 100) h f)) (funext fun j => ?_)
    unfold mx_el va_cpy
    rw [if_pos (show (100 : Nat) ≤ 101 by decide)]
    show _ = Value.int (Int32.ofInt (mx_cp _ _ _ _ _ _ _ _))
    unfold mx_cp
    by_cases hj9 : nj ≤ j ∧ j < nj + nk
    · rw [if_pos hj9, if_pos ⟨rfl, by omega, by omega⟩, show (ni : Int) + ((j : Int) - (nj : Int)) = ((ni + (j - nj) : Nat) : Int) by omega]
    · rw [if_neg hj9, if_neg (fun q => hj9 ⟨by omega, by omega⟩)]⟩)
  have hS1 : va_S (fun q => base ≤ q) s.heap (H.setIfInBounds (base + kb) newc) (locs ++ ((arrV (cA 100) h (fun j : Nat => Value.int (Int32.ofInt (mm.2.2.1 ka j)))).stretch (nI ni).toNatClampNeg (nI nk).toNatClampNeg).zipIdx.map fun q => ⟨base + kb, (nI nj).toNatClampNeg + q.2⟩) := ⟨by rw [hz2]; exact hS.1, fun z g1 g2 => by
      rw [oq z (fun e => g2 (by rw [e]; show base ≤ _; omega))]
      exact hS.2.1 z g1 g2, fun z hz => by
      rcases List.mem_append.mp hz with h | h
      · exact hS.2.2 z h
      · obtain ⟨z2, -, hz2⟩ := List.mem_map.mp h
        rw [← hz2]
        show base ≤ base + kb
        omega⟩
  obtain ⟨t, a1, b1⟩ := hJ _ _ lsA cells slots h1 h2 h3 hl hP1 hS1 _ hheap X'
  exact ⟨t, step t a1, b1⟩

set_option maxHeartbeats 1000000 in
theorem mx_s_mul {n h : Nat} {z : Int} {x : mx_C} {q1 q2 : Nat} (hX : mx_X M p s m args meth c D cA base b adK adV w0) (hR : mcT ≤ R.cells ∧ msT ≤ R.slots ∧ 1 ≤ R.frames ∧ 36 ≤ R.locals) (hd0 : mx_dk M x.1 (.multianewarray q1 q2) n z = true) (hp : (mx_nx (.multianewarray q1 q2) n z h x).1.getD True) (hJ : mx_J p l e R s m args below meth c Qf D cA base b adK w0 M mcT msT (mx_nx (.multianewarray q1 q2) n z h x).2) : mx_J p l e R s m args below meth c Qf D cA base b adK w0 M mcT msT x := by
  obtain ⟨pc, ls, st, mm⟩ := x
  obtain ⟨hx, hb, hml, hown, hts, hK, hbase, hE, hnm, hsc⟩ := hX
  intro H locs lsA cells slots h1 h2 h3 hl hP hS
  have hP : mx_P D cA base b adK w0 mm H := hP
  have hd := List.any_eq_true.mp (show List.any _ _ = true from hd0)
  obtain ⟨q, hq, hd⟩ := hd
  replace hd := of_decide_eq_true hd
  obtain ⟨e1, e2, rfl, hd⟩ := hd
  have h1 : cells + mm.2.2.2.1 = mcT := h1
  have h2 : slots + mm.2.2.2.2 = msT := h2
  rcases st with _ | ⟨v1, st⟩
  · exact False.elim hp
  rcases st with _ | ⟨v2, st⟩
  · rcases v1 with a1 | a1 | a1
    · cases a1 <;> exact False.elim hp
    · exact False.elim hp
    · exact False.elim hp
  rcases v1 with a1 | a1 | a1
  · cases a1 with
    | negSucc k => exact False.elim hp
    | ofNat k =>
      rcases v2 with a2 | a2 | a2
      · cases a2 with
        | negSucc y => exact False.elim hp
        | ofNat y =>
          simp only [mx_nx] at hp hJ
          cases hg : (Nat.ble (1 + y) mm.2.2.2.1 && (Nat.ble (y + y * k) mm.2.2.2.2 && (Nat.ble k 999 && Nat.ble y 999))) with
          | false => rw [hg] at hp; exact False.elim hp
          | true =>
            rw [hg] at hJ
            simp only [Bool.and_eq_true] at hg
            obtain ⟨g1, g2, g3, g4⟩ := hg
            have g1 := Nat.le_of_ble_eq_true g1
            have g2 := Nat.le_of_ble_eq_true g2
            have g3 := Nat.le_of_ble_eq_true g3
            have g4 := Nat.le_of_ble_eq_true g4
            obtain ⟨k1, k2⟩ := mx_kl_ok q hq
            rw [e1, e2] at k1 k2
            have hw := mx_few_ok (w := .arrayClass .int) (by simp [mx_few])
            have eK : (Int32.ofInt (Int.ofNat k)).toNatClampNeg = k := by rw [show Int32.ofInt (Int.ofNat k) = nI k from mx_nI k]; exact nI_clamp (by omega)
            have eY : (Int32.ofInt (Int.ofNat y)).toNatClampNeg = y := by rw [show Int32.ofInt (Int.ofNat y) = nI y from mx_nI y]; exact nI_clamp (by omega)
            intro T hT Xs
            obtain ⟨vm₁, cO, comp, -, fA, fC, hO, -, X', step⟩ := Xs.multianewarray2F hx (ty := .int) hown (hts _ k1 k2) (show (Cond.arrayOver (.array .int)).before args s = true from hE.2.1.2.2) (hts _ hw.1 hw.2) (g := F0 m pc lsA (.int (Int32.ofInt (Int.ofNat k)) :: .int (Int32.ofInt (Int.ofNat y)) :: st.map (mx_cv base b adK))) rfl (by rw [hb]; exact mx_Dok hd) rfl
              (by rw [show Int32.ofInt (Int.ofNat y) = nI y from mx_nI y]; exact nI_pos (by omega)) (by rw [show Int32.ofInt (Int.ofNat k) = nI k from mx_nI k]; exact nI_pos (by omega)) (by rw [eY]; omega) (by rw [eK]; show k * 4 ≤ _; omega) (by rw [eK]; omega) rfl rfl (by rw [eY]; omega) (by rw [eY, eK]; omega)
            rw [eY, eK] at X' step
            have hO2 : cO = cA 102 := Option.some.inj (fA.symm.trans (hK.2 2 _ rfl).2)
            have hC2 : comp = cA 100 := Option.some.inj (fC.symm.trans (hK.2 0 _ rfl).2)
            subst hO2; subst hC2
            have hlen0 : (pc, ls, (Sum.inl (Int.ofNat k) :: Sum.inl (Int.ofNat y) :: st : List mx_V), mm).2.2.2.1.length = mm.1.length := rfl
            generalize hF : Jvm.Free.Multi.fill (T.setVm vm₁) (cA 102) (cA 100) y k (defaultValue .int) y = F at X' step
            have hTh : (T.setVm vm₁).heap = H := hT
            obtain ⟨f1, f2, -, -⟩ := Jvm.Free.Multi.fill_facts (T.setVm vm₁) (cA 102) (cA 100) y k (defaultValue .int) y
            rw [hF, hTh] at f1 f2
            have hold : ∀ x : Nat, x < H.size → F.heap[x]? = H[x]? := fun x hx => by
              have := Jvm.Free.Multi.fill_old (T.setVm vm₁) (cA 102) (cA 100) y k (defaultValue .int) (a := x) (by rw [hTh]; exact hx) y
              rw [hF, hTh] at this
              exact this
            have hrow : ∀ j : Nat, j < y → F.heap[H.size + 1 + j]? = some (arrV (cA 100) k (fun _ => .int 0)) := fun j hj => by
              have := Jvm.Free.Multi.fill_inner (T.setVm vm₁) (cA 102) (cA 100) y k (defaultValue .int) y j hj
              rw [hF, hTh] at this
              exact this.trans (congrArg some (arrV_new (cA 100) k (.int 0)))
            have hP1 := mx_P_grow (m := mm) (H' := F.heap) (m' := ((mx_new mm ((102, y) :: List.replicate y (100, k)) (1 + y) (y + y * k)).1, (fun (b j : Int) => if b = (mm.1.length : Int) ∧ 0 ≤ j ∧ j < (y : Int) then b + 1 + j else mx_zr mm.2.1 mm.1.length (-1) b j), (mx_new mm ((102, y) :: List.replicate y (100, k)) (1 + y) (y + y * k)).2.2)) (xs := (102, y) :: List.replicate y (100, k)) hP (by rw [f1, List.length_cons, List.length_replicate]; omega) hold rfl
              (fun x hx j => ⟨by show (if _ then _ else _) = _; rw [if_neg (fun q => by have := q.1; omega)]; exact mx_zrl hx _, mx_zrl hx _⟩) mx_zr2 (fun i kd n hi => by
                cases i with
                | zero =>
                  cases hi
                  refine Or.inr ⟨by omega, by omega, by omega, ?_⟩
                  rw [show base + (mm.1.length + 0) = H.size by rw [hP.1]; rfl, f2]
                  rw [mx_outer]
                  refine congrArg (fun f => some f) (mx_arrc (fun j hj => ?_))
                  unfold mx_el
                  rw [if_neg (show ¬ (102 : Nat) ≤ 101 by omega), if_pos hj]
                  show va_rf (some _) = mx_cv base b adK (.inr (.inr (if _ then _ else _)))
                  rw [if_pos ⟨by omega, by omega, by omega⟩, mx_cvr (by omega)]
                  show Value.ref _ = Value.ref _
                  congr 1
                  rw [hP.1]
                  show base + mm.1.length + 1 + j = _
                  omega
                | succ i =>
                  have hi2 : (List.replicate y (100, k))[i]? = some (kd, n) := hi
                  have hlt : i < y := by
                    have := (List.getElem?_eq_some_iff.mp hi2).1
                    rwa [List.length_replicate] at this
                  rw [List.getElem?_replicate, if_pos hlt] at hi2
                  cases hi2
                  refine Or.inr ⟨by omega, by omega, by omega, ?_⟩
                  rw [show base + (mm.1.length + (i + 1)) = H.size + 1 + i by rw [hP.1]; show _ = base + mm.1.length + 1 + i; omega, hrow i hlt]
                  refine congrArg (fun f => some (arrV (cA 100) k f)) (funext fun j => ?_)
                  unfold mx_el
                  rw [if_pos (by decide)]
                  show _ = Value.int (Int32.ofInt (mx_zr _ _ _ _ _))
                  rw [mx_zrg (Nat.le_add_right _ _)]
                  rfl)
            have h6 := hJ F.heap locs lsA (cells + 1 + y) (slots + y + y * k) (by show cells + 1 + y + (mm.2.2.2.1 - (1 + y)) = mcT; omega) (by show slots + y + y * k + (mm.2.2.2.2 - (y + y * k)) = msT; omega) h3 hl hP1 (mx_S_grow hS (by omega) hold)
            obtain ⟨t, a1, b1⟩ := h6 F rfl X'
            refine ⟨t, step t ?_, b1⟩
            have e9 : mx_cv base b adK (.inr (.inr (mm.1.length : Int))) = .ref T.heap.size := by rw [mx_cvr (Int.natCast_nonneg _), hT, hP.1]; rfl
            rw [← e9]
            exact a1
      · exact False.elim hp
      · exact False.elim hp
  · exact False.elim hp
  · exact False.elim hp

set_option maxHeartbeats 1000000 in
theorem mx_s_min {n h : Nat} {z : Int} {x : mx_C}  (hX : mx_X M p s m args meth c D cA base b adK adV w0) (hR : mcT ≤ R.cells ∧ msT ≤ R.slots ∧ 1 ≤ R.frames ∧ 36 ≤ R.locals) (hd0 : mx_dk M x.1 (.invokedynamic 3) n z = true) (hp : (mx_nx (.invokedynamic 3) n z h x).1.getD True) (hJ : mx_J p l e R s m args below meth c Qf D cA base b adK w0 M mcT msT (mx_nx (.invokedynamic 3) n z h x).2) : mx_J p l e R s m args below meth c Qf D cA base b adK w0 M mcT msT x := by
  obtain ⟨pc, ls, st, mm⟩ := x
  obtain ⟨hx, hb, hml, hown, hts, hK, hbase, hE, hnm, hsc⟩ := hX
  intro H locs lsA cells slots h1 h2 h3 hl hP hS
  have hP : mx_P D cA base b adK w0 mm H := hP
  have hd := List.any_eq_true.mp (show List.any _ _ = true from hd0)
  obtain ⟨q, hq, hd⟩ := hd
  replace hd := of_decide_eq_true hd
  obtain ⟨e1, e2, rfl, hd⟩ := hd
  obtain ⟨k1, k2⟩ := mx_min_ok q hq e2
  rw [e1] at k1 k2
  have hw1 := mx_few_ok (w := .static Lib.Math.min.name) (by simp [mx_few])
  have hw2 := mx_few_ok (w := .initialized "java/lang/Math") (by simp [mx_few])
  have hw3 := mx_few_ok (w := .code Lib.Math.min.name Lib.Math.min.code 2 (some .int)) (by simp [mx_few])
  have h1 : cells + mm.2.2.2.1 = mcT := h1
  have h2 : slots + mm.2.2.2.2 = msT := h2
  rcases st with _ | ⟨v1, st⟩
  · exact False.elim hp
  rcases st with _ | ⟨v2, st⟩
  · rcases v1 with a1 | a1 | a1 <;> exact False.elim hp
  rcases v1 with b1 | b1 | b1
  · rcases v2 with a1 | a1 | a1
    · obtain ⟨hr, hst⟩ := hp
      have hsum : ((st.map (mx_cv base b adK)).map fun v => v.category).sum ≤ 8 := by
        rw [List.map_map]
        rw [show ((fun v => Value.category v) ∘ mx_cv base b adK) = mx_cat from funext fun v => mx_cvcat _ _ _ v]
        exact hst
      have h36 := hR.2.2.2
      refine va_mmin hx hb (by rw [hml]; exact hl.1.symm) hown (hts _ k1 k2) (hts _ hw1.1 hw1.2) (hts _ hw2.1 hw2.2) (hts _ hw3.1 hw3.2) hR.2.2.1 (by omega) (by omega) (by omega) (mx_Dok (show mx_D M pc = some (.invokestatic q.2.1, 3) from hd)) ?_
      have e9 : (if Int32.ofInt b1 < Int32.ofInt a1 then Int32.ofInt b1 else Int32.ofInt a1) = Int32.ofInt (mx_min a1 b1) := by
        unfold mx_min
        by_cases g : b1 < a1
        · rw [if_pos g, if_pos ((mx_lt32 ⟨hr.2, hr.1⟩).mpr g)]
        · rw [if_neg g, if_neg (fun z => g ((mx_lt32 ⟨hr.2, hr.1⟩).mp z))]
      rw [e9]
      exact hJ H locs lsA cells slots h1 h2 h3 hl hP hS
    · exact False.elim hp
    · exact False.elim hp
  · exact False.elim hp
  · exact False.elim hp

set_option maxHeartbeats 1000000 in
theorem mx_s_max {n h : Nat} {z : Int} {x : mx_C}  (hX : mx_X M p s m args meth c D cA base b adK adV w0) (hR : mcT ≤ R.cells ∧ msT ≤ R.slots ∧ 1 ≤ R.frames ∧ 36 ≤ R.locals) (hd0 : mx_dk M x.1 (.invokedynamic 4) n z = true) (hp : (mx_nx (.invokedynamic 4) n z h x).1.getD True) (hJ : mx_J p l e R s m args below meth c Qf D cA base b adK w0 M mcT msT (mx_nx (.invokedynamic 4) n z h x).2) : mx_J p l e R s m args below meth c Qf D cA base b adK w0 M mcT msT x := by
  obtain ⟨pc, ls, st, mm⟩ := x
  obtain ⟨hx, hb, hml, hown, hts, hK, hbase, hE, hnm, hsc⟩ := hX
  intro H locs lsA cells slots h1 h2 h3 hl hP hS
  have hP : mx_P D cA base b adK w0 mm H := hP
  have hd := List.any_eq_true.mp (show List.any _ _ = true from hd0)
  obtain ⟨q, hq, hd⟩ := hd
  replace hd := of_decide_eq_true hd
  obtain ⟨e1, e2, rfl, hd⟩ := hd
  obtain ⟨k1, k2⟩ := mx_max_ok q hq e2
  rw [e1] at k1 k2
  have hw1 := mx_few_ok (w := .static Lib.Math.max.name) (by simp [mx_few])
  have hw2 := mx_few_ok (w := .initialized "java/lang/Math") (by simp [mx_few])
  have hw3 := mx_few_ok (w := .code Lib.Math.max.name Lib.Math.max.code 2 (some .int)) (by simp [mx_few])
  have h1 : cells + mm.2.2.2.1 = mcT := h1
  have h2 : slots + mm.2.2.2.2 = msT := h2
  rcases st with _ | ⟨v1, st⟩
  · exact False.elim hp
  rcases st with _ | ⟨v2, st⟩
  · rcases v1 with a1 | a1 | a1 <;> exact False.elim hp
  rcases v1 with b1 | b1 | b1
  · rcases v2 with a1 | a1 | a1
    · obtain ⟨hr, hst⟩ := hp
      have hsum : ((st.map (mx_cv base b adK)).map fun v => v.category).sum ≤ 8 := by
        rw [List.map_map]
        rw [show ((fun v => Value.category v) ∘ mx_cv base b adK) = mx_cat from funext fun v => mx_cvcat _ _ _ v]
        exact hst
      have h36 := hR.2.2.2
      refine va_mmax hx hb (by rw [hml]; exact hl.1.symm) hown (hts _ k1 k2) (hts _ hw1.1 hw1.2) (hts _ hw2.1 hw2.2) (hts _ hw3.1 hw3.2) hR.2.2.1 (by omega) (by omega) (by omega) (mx_Dok (show mx_D M pc = some (.invokestatic q.2.1, 3) from hd)) ?_
      have e9 : (if Int32.ofInt a1 < Int32.ofInt b1 then Int32.ofInt b1 else Int32.ofInt a1) = Int32.ofInt (mx_max a1 b1) := by
        unfold mx_max
        by_cases g : a1 < b1
        · rw [if_pos g, if_pos ((mx_lt32 hr).mpr g)]
        · rw [if_neg g, if_neg (fun z => g ((mx_lt32 hr).mp z))]
      rw [e9]
      exact hJ H locs lsA cells slots h1 h2 h3 hl hP hS
    · exact False.elim hp
    · exact False.elim hp
  · exact False.elim hp
  · exact False.elim hp

end SN5
