/-! THE MACHINE IS SOUND, the instructions on memory -/
section SN3
variable {p : Program} {l : Launch} {e : Env} {R : Room} {s : State} {m : MethodId} {args : Array Value} {below : List Frame} {meth : Method} {c : Code} {Qf : State → Prop} {D : va_G} {cA : Nat → ClassId} {base b : Nat} {adK adV : Nat → Nat} {w0 : Int → Int} {M mcT msT : Nat}
theorem mx_fv_up {mm : mx_M} {kd k idx j : Nat} {v : Int} {t : Nat × Nat} : mx_fv base b adK (mm.1, mm.2.1, mx_up mm.2.2.1 k idx v, t) kd k j = if j = idx then (match (mx_ft.getD kd []).getD idx 0 with
  | 1 => .long (Int64.ofInt v)
  | 2 => mx_cv base b adK (.inr (.inr (mm.2.1 k idx)))
  | _ => .int (Int32.ofInt v)) else mx_fv base b adK mm kd k j := by
  by_cases hj : j = idx
  · subst hj
    rw [if_pos rfl]
    unfold mx_fv
    have : mx_up mm.2.2.1 k j v k j = v := by unfold mx_up; rw [if_pos ⟨rfl, rfl⟩]
    simp only [this]
    rcases (mx_ft.getD kd []).getD j 0 with _ | _ | _ | w <;> rfl
  · rw [if_neg hj]
    unfold mx_fv
    have : mx_up mm.2.2.1 k idx v k j = mm.2.2.1 k j := by unfold mx_up; rw [if_neg (fun q => hj (by have := q.2; omega))]
    simp only [this]
theorem mx_fv_upr {mm : mx_M} {kd k idx j : Nat} {v : Int} {t : (Int → Int → Int) × Nat × Nat} (ht : t.1 = mm.2.2.1) : mx_fv base b adK (mm.1, mx_up mm.2.1 k idx v, t) kd k j = if j = idx then (match (mx_ft.getD kd []).getD idx 0 with
  | 1 => .long (Int64.ofInt (mm.2.2.1 k idx))
  | 2 => mx_cv base b adK (.inr (.inr v))
  | _ => .int (Int32.ofInt (mm.2.2.1 k idx))) else mx_fv base b adK mm kd k j := by
  by_cases hj : j = idx
  · subst hj
    rw [if_pos rfl]
    unfold mx_fv
    have : mx_up mm.2.1 k j v k j = v := by unfold mx_up; rw [if_pos ⟨rfl, rfl⟩]
    simp only [this, ht]
    rcases (mx_ft.getD kd []).getD j 0 with _ | _ | _ | w <;> rfl
  · rw [if_neg hj]
    unfold mx_fv
    have : mx_up mm.2.1 k idx v k j = mm.2.1 k j := by unfold mx_up; rw [if_neg (fun q => hj (by have := q.2; omega))]
    simp only [this, ht]

set_option maxHeartbeats 1000000 in
theorem mx_s_getfield {n h : Nat} {z : Int} {x : mx_C} {q0 : Nat} (hX : mx_X M p s m args meth c D cA base b adK adV w0) (hd0 : mx_dk M x.1 (.getfield q0) n z = true) (hp : (mx_nx (.getfield q0) n z h x).1.getD True) (hJ : mx_J p l e R s m args below meth c Qf D cA base b adK w0 M mcT msT (mx_nx (.getfield q0) n z h x).2) : mx_J p l e R s m args below meth c Qf D cA base b adK w0 M mcT msT x := by
  obtain ⟨pc, ls, st, mm⟩ := x
  obtain ⟨hx, hb, hml, hown, hts, hK, hbase, hE, hnm, hsc⟩ := hX
  intro H locs lsA cells slots h1 h2 h3 hl hP hS
  have hd := List.any_eq_true.mp (show List.any _ _ = true from hd0)
  obtain ⟨q, hq, hd⟩ := hd
  replace hd := of_decide_eq_true hd
  obtain ⟨e1, rfl, rfl, rfl, hd⟩ := hd
  obtain ⟨f1, f2, f3⟩ := mx_fl2_ok hq
  rcases st with _ | ⟨v1, st⟩
  · exact False.elim hp
  rcases v1 with a1 | a1 | a1
  · exact False.elim hp
  · exact False.elim hp
  simp only [mx_nx] at hp hJ
  have key : ∀ (v : Value), mx_shp mm a1 = (q.2.2.1 / 256, 0) → (∀ k : Nat, a1 = (k : Int) → mx_fv base b adK mm (q.2.2.1 / 256) k (q.2.2.1 % 256 / 4) = v) → W p l e R s m args below meth c H locs cells slots Qf (F0 m (pc + 3) lsA (v :: st.map (mx_cv base b adK))) →
      W p l e R s m args below meth c H locs cells slots Qf (F0 m pc lsA (mx_cv base b adK (.inr (.inr a1)) :: st.map (mx_cv base b adK))) := by
    intro v hs hv hW
    obtain ⟨k, rfl, hk⟩ := mx_shpk hs (by omega)
    rw [mx_cvr (Int.natCast_nonneg k)]
    exact mx_gf hx hb hown hts hK hq e1 hP hk (hv k rfl) (mx_Dok hd) hW
  rcases hf : mx_fty q.2.2.1 with _ | _ | _ | n4
  · rw [hf] at hp hJ f3
    exact key _ hp (fun k hk => by subst hk; unfold mx_fv; rw [f3]; (try rfl)) (hJ H locs lsA cells slots h1 h2 h3 hl hP hS)
  · rw [hf] at hp hJ f3
    exact key _ hp (fun k hk => by subst hk; unfold mx_fv; rw [f3]; (try rfl)) (hJ H locs lsA cells slots h1 h2 h3 hl hP hS)
  · rw [hf] at hp hJ f3
    exact key _ hp (fun k hk => by subst hk; unfold mx_fv; rw [f3]; (try rfl)) (hJ H locs lsA cells slots h1 h2 h3 hl hP hS)
  · rw [hf] at hp hJ f3
    exact key _ hp (fun k hk => by subst hk; unfold mx_fv; rw [f3]; (try rfl)) (hJ H locs lsA cells slots h1 h2 h3 hl hP hS)

set_option maxHeartbeats 1000000 in
theorem mx_s_putfield {n h : Nat} {z : Int} {x : mx_C} {q0 : Nat} (hX : mx_X M p s m args meth c D cA base b adK adV w0) (hd0 : mx_dk M x.1 (.putfield q0) n z = true) (hp : (mx_nx (.putfield q0) n z h x).1.getD True) (hJ : mx_J p l e R s m args below meth c Qf D cA base b adK w0 M mcT msT (mx_nx (.putfield q0) n z h x).2) : mx_J p l e R s m args below meth c Qf D cA base b adK w0 M mcT msT x := by
  obtain ⟨pc, ls, st, mm⟩ := x
  obtain ⟨hx, hb, hml, hown, hts, hK, hbase, hE, hnm, hsc⟩ := hX
  intro H locs lsA cells slots h1 h2 h3 hl hP hS
  have hd := List.any_eq_true.mp (show List.any _ _ = true from hd0)
  obtain ⟨q, hq, hd⟩ := hd
  replace hd := of_decide_eq_true hd
  obtain ⟨e1, rfl, rfl, rfl, hfin, hd⟩ := hd
  obtain ⟨f1, f2, f3⟩ := mx_fl2_ok hq
  have f4 := (mx_fck_ok f1 f2).2
  rw [f3] at f4
  rcases st with _ | ⟨v1, st⟩
  · exact False.elim hp
  rcases st with _ | ⟨v2, st⟩
  · rcases v1 with a1 | a1 | a1 <;> exact False.elim hp
  rcases v1 with a1 | a1 | a1
  · rcases v2 with a2 | a2 | a2
    · exact False.elim hp
    · exact False.elim hp
    simp only [mx_nx] at hp hJ
    rcases hf : mx_fty q.2.2.1 with _ | _ | _ | _ | n4
    · rw [hf] at hp hJ f3 f4
      obtain ⟨k, rfl, hk⟩ := mx_shpk hp (by omega)
      have f5 : mx_pf (q.2.2.1 / 256) (q.2.2.1 % 256 / 4) = .int := of_decide_eq_true f4
      show W _ _ _ _ _ _ _ _ _ _ _ _ _ _ _ (F0 _ _ _ (.int (Int32.ofInt a1) :: mx_cv base b adK (.inr (.inr (k : Int))) :: _))
      rw [mx_cvr (Int.natCast_nonneg k)]
      exact mx_pfd (k := k) (mm' := (mm.1, mm.2.1, mx_up mm.2.2.1 k ((q.2.2.1 % 256 / 4 : Nat) : Int) a1, mm.2.2.2)) hx hb hown hts hK hbase hq e1 hP hS hk (by rw [f5]; rfl) (by rw [f5]; rfl) (Or.inl hfin) rfl (fun a ha => ⟨rfl, mx_upo ha⟩) (fun j _ => by
        have h9 := mx_fv_up (base := base) (b := b) (adK := adK) (mm := mm) (kd := q.2.2.1 / 256) (k := k) (idx := q.2.2.1 % 256 / 4) (j := j) (v := a1) (t := mm.2.2.2)
        rw [f3] at h9
        exact h9) (mx_Dok hd) (fun H1 locs1 g1 g2 => hJ H1 locs1 lsA cells slots h1 h2 h3 hl g1 g2)
    · rw [hf] at hp; exact False.elim hp
    · rw [hf] at hp; exact False.elim hp
    · rw [hf] at hp hJ f3 f4
      obtain ⟨hp, hp2⟩ := hp
      obtain ⟨k, rfl, hk⟩ := mx_shpk hp (by omega)
      have f5 : mx_pf (q.2.2.1 / 256) (q.2.2.1 % 256 / 4) = .boolean := of_decide_eq_true f4
      show W _ _ _ _ _ _ _ _ _ _ _ _ _ _ _ (F0 _ _ _ (.int (Int32.ofInt a1) :: mx_cv base b adK (.inr (.inr (k : Int))) :: _))
      rw [mx_cvr (Int.natCast_nonneg k)]
      exact mx_pfd (k := k) (mm' := (mm.1, mm.2.1, mx_up mm.2.2.1 k ((q.2.2.1 % 256 / 4 : Nat) : Int) a1, mm.2.2.2)) hx hb hown hts hK hbase hq e1 hP hS hk (by rw [f5]; rcases hp2 with rfl | rfl <;> rfl) (by rw [f5]; rcases hp2 with rfl | rfl <;> rfl) (Or.inl hfin) rfl (fun a ha => ⟨rfl, mx_upo ha⟩) (fun j _ => by
        have h9 := mx_fv_up (base := base) (b := b) (adK := adK) (mm := mm) (kd := q.2.2.1 / 256) (k := k) (idx := q.2.2.1 % 256 / 4) (j := j) (v := a1) (t := mm.2.2.2)
        rw [f3] at h9
        exact h9) (mx_Dok hd) (fun H1 locs1 g1 g2 => hJ H1 locs1 lsA cells slots h1 h2 h3 hl g1 g2)
    · rw [hf] at hp; exact False.elim hp
  · rcases v2 with a2 | a2 | a2
    · exact False.elim hp
    · exact False.elim hp
    simp only [mx_nx] at hp hJ
    rcases hf : mx_fty q.2.2.1 with _ | _ | n4
    · rw [hf] at hp; exact False.elim hp
    · rw [hf] at hp hJ f3 f4
      obtain ⟨k, rfl, hk⟩ := mx_shpk hp (by omega)
      have f5 : mx_pf (q.2.2.1 / 256) (q.2.2.1 % 256 / 4) = .long := of_decide_eq_true f4
      show W _ _ _ _ _ _ _ _ _ _ _ _ _ _ _ (F0 _ _ _ (.long (Int64.ofInt a1) :: mx_cv base b adK (.inr (.inr (k : Int))) :: _))
      rw [mx_cvr (Int.natCast_nonneg k)]
      exact mx_pfd (k := k) (mm' := (mm.1, mm.2.1, mx_up mm.2.2.1 k ((q.2.2.1 % 256 / 4 : Nat) : Int) a1, mm.2.2.2)) hx hb hown hts hK hbase hq e1 hP hS hk (by rw [f5]; rfl) (by rw [f5]; rfl) (Or.inl hfin) rfl (fun a ha => ⟨rfl, mx_upo ha⟩) (fun j _ => by
        have h9 := mx_fv_up (base := base) (b := b) (adK := adK) (mm := mm) (kd := q.2.2.1 / 256) (k := k) (idx := q.2.2.1 % 256 / 4) (j := j) (v := a1) (t := mm.2.2.2)
        rw [f3] at h9
        exact h9) (mx_Dok hd) (fun H1 locs1 g1 g2 => hJ H1 locs1 lsA cells slots h1 h2 h3 hl g1 g2)
    · rw [hf] at hp; exact False.elim hp
  · exact False.elim hp

set_option maxHeartbeats 1000000 in
theorem mx_s_putstatic {n h : Nat} {z : Int} {x : mx_C} {q0 : Nat} (hX : mx_X M p s m args meth c D cA base b adK adV w0) (hd0 : mx_dk M x.1 (.putstatic q0) n z = true) (hp : (mx_nx (.putstatic q0) n z h x).1.getD True) (hJ : mx_J p l e R s m args below meth c Qf D cA base b adK w0 M mcT msT (mx_nx (.putstatic q0) n z h x).2) : mx_J p l e R s m args below meth c Qf D cA base b adK w0 M mcT msT x := by
  obtain ⟨pc, ls, st, mm⟩ := x
  obtain ⟨hx, hb, hml, hown, hts, hK, hbase, hE, hnm, hsc⟩ := hX
  intro H locs lsA cells slots h1 h2 h3 hl hP hS
  have hd := List.any_eq_true.mp (show List.any _ _ = true from hd0)
  obtain ⟨q, hq, hd⟩ := hd
  replace hd := of_decide_eq_true hd
  obtain ⟨e1, rfl, rfl, rfl, hfin, hfi2, hfi3, hd⟩ := hd
  obtain ⟨f1, f2, f3⟩ := mx_fl2_ok hq
  have f4 := (mx_fck_ok f1 f2).2
  rw [f3] at f4
  rcases st with _ | ⟨v1, st⟩
  · exact False.elim hp
  rcases st with _ | ⟨v2, st⟩
  · rcases v1 with a1 | a1 | a1 <;> exact False.elim hp
  rcases v1 with a1 | a1 | a1
  · rcases v2 with a2 | a2 | a2 <;> exact False.elim hp
  · rcases v2 with a2 | a2 | a2 <;> exact False.elim hp
  rcases v2 with a2 | a2 | a2
  · exact False.elim hp
  · exact False.elim hp
  simp only [mx_nx] at hp hJ
  rcases hf : mx_fty q.2.2.1 with _ | _ | _ | n4
  · rw [hf] at hp; exact False.elim hp
  · rw [hf] at hp; exact False.elim hp
  · rw [hf] at hp hJ f3 f4
    obtain ⟨hp, hp2⟩ := hp
    obtain ⟨k, rfl, hk⟩ := mx_shpk hp (by omega)
    show W _ _ _ _ _ _ _ _ _ _ _ _ _ _ _ (F0 _ _ _ (mx_cv base b adK (.inr (.inr a1)) :: mx_cv base b adK (.inr (.inr (k : Int))) :: _))
    rw [mx_cvr (Int.natCast_nonneg k)]
    have f4 : mx_isr (mx_pf (q.2.2.1 / 256) (q.2.2.1 % 256 / 4)) = true := f4
    have f6 : narrow (mx_pf (q.2.2.1 / 256) (q.2.2.1 % 256 / 4)) (mx_cv base b adK (.inr (.inr a1))) = mx_cv base b adK (.inr (.inr a1)) ∧ fits (mx_pf (q.2.2.1 / 256) (q.2.2.1 % 256 / 4)) (mx_cv base b adK (.inr (.inr a1))) = true := by
      rw [mx_cvr hp2]
      cases hpf : mx_pf (q.2.2.1 / 256) (q.2.2.1 % 256 / 4) <;> first | exact ⟨rfl, rfl⟩ | (rw [hpf] at f4; cases f4)
    exact mx_pfd (k := k) (mm' := (mm.1, mx_up mm.2.1 k ((q.2.2.1 % 256 / 4 : Nat) : Int) a1, mm.2.2)) hx hb hown hts hK hbase hq e1 hP hS hk f6.1 f6.2 (Or.inr ⟨hfin, by rw [hnm]; exact hfi2, hfi3⟩) rfl (fun a ha => ⟨mx_upo ha, rfl⟩) (fun j _ => by
        have h9 := mx_fv_upr (base := base) (b := b) (adK := adK) (mm := mm) (kd := q.2.2.1 / 256) (k := k) (idx := q.2.2.1 % 256 / 4) (j := j) (v := a1) (t := mm.2.2) rfl
        rw [f3] at h9
        exact h9) (mx_Dok hd) (fun H1 locs1 g1 g2 => hJ H1 locs1 lsA cells slots h1 h2 h3 hl g1 g2)
  · rw [hf] at hp; exact False.elim hp

set_option maxHeartbeats 1000000 in
theorem mx_s_iaload {n h : Nat} {z : Int} {x : mx_C}  (hX : mx_X M p s m args meth c D cA base b adK adV w0) (hd0 : mx_dk M x.1 (.iaload) n z = true) (hp : (mx_nx (.iaload) n z h x).1.getD True) (hJ : mx_J p l e R s m args below meth c Qf D cA base b adK w0 M mcT msT (mx_nx (.iaload) n z h x).2) : mx_J p l e R s m args below meth c Qf D cA base b adK w0 M mcT msT x := by
  obtain ⟨pc, ls, st, mm⟩ := x
  obtain ⟨hx, hb, hml, hown, hts, hK, hbase, hE, hnm, hsc⟩ := hX
  intro H locs lsA cells slots h1 h2 h3 hl hP hS
  have hd := of_decide_eq_true (show decide _ = true from hd0)
  obtain ⟨rfl, hd⟩ := hd
  rcases st with _ | ⟨v1, st⟩
  · exact False.elim hp
  rcases st with _ | ⟨v2, st⟩
  · rcases v1 with a1 | a1 | a1 <;> exact False.elim hp
  rcases v1 with i | a1 | a1
  · rcases v2 with a2 | a2 | a2
    · exact False.elim hp
    · exact False.elim hp
    obtain ⟨hp, hi⟩ := hp
    obtain ⟨k, rfl, hk⟩ := mx_shpk hp (by omega)
    rcases hP.2.2 k _ _ hk with ⟨q0, -⟩ | ⟨-, -, hn, hcell⟩
    · omega
    obtain ⟨i1, i2, i3⟩ := mx_cl32 hi (by omega)
    show W _ _ _ _ _ _ _ _ _ _ _ _ _ _ _ (F0 _ _ _ (.int (Int32.ofInt i) :: mx_cv base b adK (.inr (.inr (k : Int))) :: _))
    rw [mx_cvr (Int.natCast_nonneg k)]
    refine W.iald (v := .int (Int32.ofInt (mm.2.2.1 k i))) hx hb hcell ((hK.2 0 _ rfl).1 h _) (fun q => by cases q) (by show ¬ (_ < 0 ∨ (arrV _ _ _).slots.size ≤ _); rw [arrV_size]; exact i3) ?_ rfl rfl (mx_Dok hd) (hJ H locs lsA cells slots h1 h2 h3 hl hP hS)
    show (arrV _ _ _).slots[_]? = _
    rw [i2, arrV_read _ _ (by omega)]
    unfold mx_el
    rw [if_pos (by decide), Int.toNat_of_nonneg hi.1]
  · exact False.elim hp
  · exact False.elim hp

set_option maxHeartbeats 1000000 in
theorem mx_s_baload {n h : Nat} {z : Int} {x : mx_C}  (hX : mx_X M p s m args meth c D cA base b adK adV w0) (hd0 : mx_dk M x.1 (.baload) n z = true) (hp : (mx_nx (.baload) n z h x).1.getD True) (hJ : mx_J p l e R s m args below meth c Qf D cA base b adK w0 M mcT msT (mx_nx (.baload) n z h x).2) : mx_J p l e R s m args below meth c Qf D cA base b adK w0 M mcT msT x := by
  obtain ⟨pc, ls, st, mm⟩ := x
  obtain ⟨hx, hb, hml, hown, hts, hK, hbase, hE, hnm, hsc⟩ := hX
  intro H locs lsA cells slots h1 h2 h3 hl hP hS
  have hd := of_decide_eq_true (show decide _ = true from hd0)
  obtain ⟨rfl, hd⟩ := hd
  rcases st with _ | ⟨v1, st⟩
  · exact False.elim hp
  rcases st with _ | ⟨v2, st⟩
  · rcases v1 with a1 | a1 | a1 <;> exact False.elim hp
  rcases v1 with i | a1 | a1
  · rcases v2 with a2 | a2 | a2
    · exact False.elim hp
    · exact False.elim hp
    obtain ⟨hp, hi⟩ := hp
    obtain ⟨k, rfl, hk⟩ := mx_shpk hp (by omega)
    rcases hP.2.2 k _ _ hk with ⟨q0, -⟩ | ⟨-, -, hn, hcell⟩
    · omega
    obtain ⟨i1, i2, i3⟩ := mx_cl32 hi (by omega)
    show W _ _ _ _ _ _ _ _ _ _ _ _ _ _ _ (F0 _ _ _ (.int (Int32.ofInt i) :: mx_cv base b adK (.inr (.inr (k : Int))) :: _))
    rw [mx_cvr (Int.natCast_nonneg k)]
    refine W.zald (v := .int (Int32.ofInt (mm.2.2.1 k i))) hx hb hcell ((hK.2 1 _ rfl).1 h _) (fun q => by cases q) (by show ¬ (_ < 0 ∨ (arrV _ _ _).slots.size ≤ _); rw [arrV_size]; exact i3) ?_ rfl rfl (mx_Dok hd) (hJ H locs lsA cells slots h1 h2 h3 hl hP hS)
    show (arrV _ _ _).slots[_]? = _
    rw [i2, arrV_read _ _ (by omega)]
    unfold mx_el
    rw [if_pos (by decide), Int.toNat_of_nonneg hi.1]
  · exact False.elim hp
  · exact False.elim hp

theorem mx_el_up {mm : mx_M} {kd k j : Nat} {i v : Int} {t : Nat × Nat} (hkd : kd ≤ 101) (hi : 0 ≤ i) : mx_el base b adK (mm.1, mm.2.1, mx_up mm.2.2.1 k i v, t) kd k j = updV (mx_el base b adK mm kd k) i.toNat (.int (Int32.ofInt v)) j := by
  unfold mx_el updV mx_up
  simp only [if_pos hkd]
  by_cases hj : j = i.toNat
  · subst hj
    rw [if_pos rfl]
    rw [if_pos ⟨trivial, Int.toNat_of_nonneg hi⟩]
  · rw [if_neg hj]
    rw [if_neg (fun q => hj (by omega))]
theorem mx_el_upr {mm : mx_M} {kd k j : Nat} {i v : Int} {t : (Int → Int → Int) × Nat × Nat} (hkd : ¬ kd ≤ 101) (hi : 0 ≤ i) : mx_el base b adK (mm.1, mx_up mm.2.1 k i v, t) kd k j = updV (mx_el base b adK mm kd k) i.toNat (mx_cv base b adK (.inr (.inr v))) j := by
  unfold mx_el updV mx_up
  simp only [if_neg hkd]
  by_cases hj : j = i.toNat
  · subst hj
    rw [if_pos rfl]
    rw [if_pos ⟨trivial, Int.toNat_of_nonneg hi⟩]
  · rw [if_neg hj]
    rw [if_neg (fun q => hj (by omega))]

set_option maxHeartbeats 1000000 in
theorem mx_s_iastore {n h : Nat} {z : Int} {x : mx_C}  (hX : mx_X M p s m args meth c D cA base b adK adV w0) (hd0 : mx_dk M x.1 (.iastore) n z = true) (hp : (mx_nx (.iastore) n z h x).1.getD True) (hJ : mx_J p l e R s m args below meth c Qf D cA base b adK w0 M mcT msT (mx_nx (.iastore) n z h x).2) : mx_J p l e R s m args below meth c Qf D cA base b adK w0 M mcT msT x := by
  obtain ⟨pc, ls, st, mm⟩ := x
  obtain ⟨hx, hb, hml, hown, hts, hK, hbase, hE, hnm, hsc⟩ := hX
  intro H locs lsA cells slots h1 h2 h3 hl hP hS
  have hd := of_decide_eq_true (show decide _ = true from hd0)
  obtain ⟨rfl, hd⟩ := hd
  rcases st with _ | ⟨v1, st⟩
  · exact False.elim hp
  rcases st with _ | ⟨v2, st⟩
  · rcases v1 with a1 | a1 | a1 <;> exact False.elim hp
  rcases st with _ | ⟨v3, st⟩
  · rcases v1 with a1 | a1 | a1 <;> rcases v2 with a2 | a2 | a2 <;> exact False.elim hp
  rcases v1 with v | a1 | a1
  · rcases v2 with i | a2 | a2
    · rcases v3 with a3 | a3 | a3
      · exact False.elim hp
      · exact False.elim hp
      obtain ⟨hp, hi⟩ := hp
      obtain ⟨k, rfl, hk⟩ := mx_shpk hp (by omega)
      rcases hP.2.2 k _ _ hk with ⟨q0, -⟩ | ⟨-, -, hn, hcell⟩
      · omega
      obtain ⟨i1, i2, i3⟩ := mx_cl32 hi (by omega)
      show W _ _ _ _ _ _ _ _ _ _ _ _ _ _ _ (F0 _ _ _ (.int (Int32.ofInt v) :: .int (Int32.ofInt i) :: mx_cv base b adK (.inr (.inr (k : Int))) :: _))
      rw [mx_cvr (Int.natCast_nonneg k)]
      refine W.iast hx hb hcell ((hK.2 0 _ rfl).1 h _) (fun q => by cases q) (by show ¬ (_ < 0 ∨ (arrV _ _ _).slots.size ≤ _); rw [arrV_size]; exact i3) rfl rfl (mx_Dok hd) (fun H1 z1 z2 z3 => ?_)
      skip
      rw [i2, arrV_store] at z1
      refine hJ H1 _ lsA cells slots h1 h2 h3 hl (mx_P_upd (m' := (mm.1, mm.2.1, mx_up mm.2.2.1 k i v, mm.2.2.2)) hP hk z2 z3 rfl (fun a ha => ⟨rfl, mx_upo ha⟩) (Or.inr ⟨by omega, by omega, hn, ?_⟩)) (hS.put z2 z3 (by show base ≤ _; omega))
      refine z1.trans (congrArg (fun f => some (arrV (cA 100) h f)) (funext fun j => ?_))
      rw [mx_el_up (by decide) hi.1]
    · exact False.elim hp
    · exact False.elim hp
  · exact False.elim hp
  · exact False.elim hp

set_option maxHeartbeats 1000000 in
theorem mx_s_bastore {n h : Nat} {z : Int} {x : mx_C}  (hX : mx_X M p s m args meth c D cA base b adK adV w0) (hd0 : mx_dk M x.1 (.bastore) n z = true) (hp : (mx_nx (.bastore) n z h x).1.getD True) (hJ : mx_J p l e R s m args below meth c Qf D cA base b adK w0 M mcT msT (mx_nx (.bastore) n z h x).2) : mx_J p l e R s m args below meth c Qf D cA base b adK w0 M mcT msT x := by
  obtain ⟨pc, ls, st, mm⟩ := x
  obtain ⟨hx, hb, hml, hown, hts, hK, hbase, hE, hnm, hsc⟩ := hX
  intro H locs lsA cells slots h1 h2 h3 hl hP hS
  have hd := of_decide_eq_true (show decide _ = true from hd0)
  obtain ⟨rfl, hd⟩ := hd
  rcases st with _ | ⟨v1, st⟩
  · exact False.elim hp
  rcases st with _ | ⟨v2, st⟩
  · rcases v1 with a1 | a1 | a1 <;> exact False.elim hp
  rcases st with _ | ⟨v3, st⟩
  · rcases v1 with a1 | a1 | a1 <;> rcases v2 with a2 | a2 | a2 <;> exact False.elim hp
  rcases v1 with v | a1 | a1
  · rcases v2 with i | a2 | a2
    · rcases v3 with a3 | a3 | a3
      · exact False.elim hp
      · exact False.elim hp
      obtain ⟨⟨hp, hi⟩, hv⟩ := hp
      obtain ⟨k, rfl, hk⟩ := mx_shpk hp (by omega)
      rcases hP.2.2 k _ _ hk with ⟨q0, -⟩ | ⟨-, -, hn, hcell⟩
      · omega
      obtain ⟨i1, i2, i3⟩ := mx_cl32 hi (by omega)
      show W _ _ _ _ _ _ _ _ _ _ _ _ _ _ _ (F0 _ _ _ (.int (Int32.ofInt v) :: .int (Int32.ofInt i) :: mx_cv base b adK (.inr (.inr (k : Int))) :: _))
      rw [mx_cvr (Int.natCast_nonneg k)]
      refine W.zast hx hb hcell ((hK.2 1 _ rfl).1 h _) (fun q => by cases q) (by show ¬ (_ < 0 ∨ (arrV _ _ _).slots.size ≤ _); rw [arrV_size]; exact i3) rfl rfl (mx_Dok hd) (fun H1 z1 z2 z3 => ?_)
      have hnv : narrow .boolean (.int (Int32.ofInt v)) = .int (Int32.ofInt v) := by rcases hv with rfl | rfl <;> rfl
      rw [hnv] at z1
      rw [i2, arrV_store] at z1
      refine hJ H1 _ lsA cells slots h1 h2 h3 hl (mx_P_upd (m' := (mm.1, mm.2.1, mx_up mm.2.2.1 k i v, mm.2.2.2)) hP hk z2 z3 rfl (fun a ha => ⟨rfl, mx_upo ha⟩) (Or.inr ⟨by omega, by omega, hn, ?_⟩)) (hS.put z2 z3 (by show base ≤ _; omega))
      refine z1.trans (congrArg (fun f => some (arrV (cA 101) h f)) (funext fun j => ?_))
      rw [mx_el_up (by decide) hi.1]
    · exact False.elim hp
    · exact False.elim hp
  · exact False.elim hp
  · exact False.elim hp

set_option maxHeartbeats 1000000 in
theorem mx_s_aaload {n h : Nat} {z : Int} {x : mx_C}  (hX : mx_X M p s m args meth c D cA base b adK adV w0) (hd0 : mx_dk M x.1 (.aaload) n z = true) (hp : (mx_nx (.aaload) n z h x).1.getD True) (hJ : mx_J p l e R s m args below meth c Qf D cA base b adK w0 M mcT msT (mx_nx (.aaload) n z h x).2) : mx_J p l e R s m args below meth c Qf D cA base b adK w0 M mcT msT x := by
  obtain ⟨pc, ls, st, mm⟩ := x
  obtain ⟨hx, hb, hml, hown, hts, hK, hbase, hE, hnm, hsc⟩ := hX
  intro H locs lsA cells slots h1 h2 h3 hl hP hS
  have hd := of_decide_eq_true (show decide _ = true from hd0)
  obtain ⟨rfl, hd⟩ := hd
  rcases st with _ | ⟨v1, st⟩
  · exact False.elim hp
  rcases st with _ | ⟨v2, st⟩
  · rcases v1 with a1 | a1 | a1 <;> exact False.elim hp
  rcases v1 with i | a1 | a1
  · rcases v2 with a2 | a2 | a2
    · exact False.elim hp
    · exact False.elim hp
    simp only [mx_nx] at hp hJ
    cases hg : (Nat.ble 102 (h / 1000) && Nat.ble (h / 1000) 104) with
    | false => rw [hg] at hp; exact False.elim hp
    | true =>
      rw [hg] at hp hJ
      obtain ⟨g1, g2⟩ := Bool.and_eq_true_iff.mp hg
      have g1 := Nat.le_of_ble_eq_true g1
      have g2 := Nat.le_of_ble_eq_true g2
      obtain ⟨hp, hi⟩ := hp
      obtain ⟨k, rfl, hk⟩ := mx_shpk hp (by omega)
      generalize h / 1000 = kd at *
      generalize h % 1000 = w at *
      rcases hP.2.2 k _ _ hk with ⟨q0, -⟩ | ⟨-, -, hn, hcell⟩
      · omega
      obtain ⟨i1, i2, i3⟩ := mx_cl32 hi (by omega)
      show W _ _ _ _ _ _ _ _ _ _ _ _ _ _ _ (F0 _ _ _ (.int (Int32.ofInt i) :: mx_cv base b adK (.inr (.inr (k : Int))) :: _))
      rw [mx_cvr (Int.natCast_nonneg k)]
      have hr : ∃ (ty : FieldType), ty.isReference = true ∧ ArrOfT s (cA kd) ty := by
        rcases (show kd = 102 ∨ kd = 103 ∨ kd = 104 by omega) with rfl | rfl | rfl
        · exact ⟨_, rfl, (hK.2 2 _ rfl).1⟩
        · exact ⟨_, rfl, (hK.2 3 _ rfl).1⟩
        · exact ⟨_, rfl, (hK.2 4 _ rfl).1⟩
      obtain ⟨ty, hr1, hr2⟩ := hr
      refine W.aald (v := mx_cv base b adK (.inr (.inr (mm.2.1 k i)))) (ty := ty) hx hb hcell (hr2 w _) hr1 (fun q => by cases q) (by show ¬ (_ < 0 ∨ (arrV _ _ _).slots.size ≤ _); rw [arrV_size]; exact i3) ?_ rfl rfl (mx_Dok hd) (hJ H locs lsA cells slots h1 h2 h3 hl hP hS)
      show (arrV _ _ _).slots[_]? = _
      rw [i2, arrV_read _ _ (by omega)]
      unfold mx_el
      rw [if_neg (by omega), Int.toNat_of_nonneg hi.1]
  · exact False.elim hp
  · exact False.elim hp

set_option maxHeartbeats 1000000 in
theorem mx_s_aastore {n h : Nat} {z : Int} {x : mx_C}  (hX : mx_X M p s m args meth c D cA base b adK adV w0) (hd0 : mx_dk M x.1 (.aastore) n z = true) (hp : (mx_nx (.aastore) n z h x).1.getD True) (hJ : mx_J p l e R s m args below meth c Qf D cA base b adK w0 M mcT msT (mx_nx (.aastore) n z h x).2) : mx_J p l e R s m args below meth c Qf D cA base b adK w0 M mcT msT x := by
  obtain ⟨pc, ls, st, mm⟩ := x
  obtain ⟨hx, hb, hml, hown, hts, hK, hbase, hE, hnm, hsc⟩ := hX
  intro H locs lsA cells slots h1 h2 h3 hl hP hS
  have hd := of_decide_eq_true (show decide _ = true from hd0)
  obtain ⟨rfl, hd⟩ := hd
  rcases st with _ | ⟨v1, st⟩
  · exact False.elim hp
  rcases st with _ | ⟨v2, st⟩
  · rcases v1 with a1 | a1 | a1 <;> exact False.elim hp
  rcases st with _ | ⟨v3, st⟩
  · rcases v1 with a1 | a1 | a1 <;> rcases v2 with a2 | a2 | a2 <;> exact False.elim hp
  rcases v1 with a1 | a1 | v
  · rcases v2 with a2 | a2 | a2 <;> rcases v3 with a3 | a3 | a3 <;> exact False.elim hp
  · exact False.elim hp
  · rcases v2 with i | a2 | a2
    · rcases v3 with a3 | a3 | a3
      · exact False.elim hp
      · exact False.elim hp
      simp only [mx_nx] at hp hJ
      cases hg : (Nat.ble 103 (h / 1000) && Nat.ble (h / 1000) 104) with
      | false => rw [hg] at hp; exact False.elim hp
      | true =>
        rw [hg] at hp hJ
        obtain ⟨g1, g2⟩ := Bool.and_eq_true_iff.mp hg
        have g1 := Nat.le_of_ble_eq_true g1
        have g2 := Nat.le_of_ble_eq_true g2
        obtain ⟨⟨hp, hi⟩, hpv⟩ := hp
        have hek : mx_elk (h / 1000) < 10 := by unfold mx_elk; split <;> omega
        obtain ⟨k, rfl, hk⟩ := mx_shpk hp (by omega)
        obtain ⟨kv, rfl, hkv⟩ := mx_shpk hpv (by omega)
        generalize h / 1000 = kd at *
        generalize h % 1000 = w at *
        rcases hP.2.2 k _ _ hk with ⟨q0, -⟩ | ⟨-, -, hn, hcell⟩
        · omega
        have q0 : t_OB (base + kv) (D.1 (mx_elk kd)) (mx_nf (mx_elk kd)) (D.2 (mx_elk kd)) H (mx_fv base b adK mm (mx_elk kd) kv) := by
          rcases hP.2.2 kv _ _ hkv with ⟨-, q0⟩ | ⟨q0, -⟩
          · exact q0
          · omega
        obtain ⟨cellV, c1, c2, c3, -⟩ := q0
        obtain ⟨i1, i2, i3⟩ := mx_cl32 hi (by omega)
        show W _ _ _ _ _ _ _ _ _ _ _ _ _ _ _ (F0 _ _ _ (mx_cv base b adK (.inr (.inr (kv : Int))) :: .int (Int32.ofInt i) :: mx_cv base b adK (.inr (.inr (k : Int))) :: _))
        rw [mx_cvr (Int.natCast_nonneg k), mx_cvr (Int.natCast_nonneg kv)]
        have hr : ∃ (C : String), va_RA s (cA kd) (.object C) ∧ (mx_cl.getD (mx_elk kd) ("", mT_X0, 0)).1 = C := by
          rcases (show kd = 103 ∨ kd = 104 by omega) with rfl | rfl
          · exact ⟨_, (hK.2 3 _ rfl).2, rfl⟩
          · exact ⟨_, (hK.2 4 _ rfl).2, rfl⟩
        obtain ⟨C, ⟨kA, comp, k1, k2, k3, -⟩, hC⟩ := hr
        have hcls := (hK.1 _ _ (mx_cl_at hek)).2
        rw [hC] at hcls
        have hcomp : comp = D.1 (mx_elk kd) := Option.some.inj (k3.symm.trans hcls.1)
        subst hcomp
        obtain ⟨kC, hkC, -⟩ := hcls.2
        refine W.aast hx hb hcell (fun q h => by cases h) (fun h => by cases h) k1 k2 rfl hkC ⟨fun q => i3 (Or.inl q), by show _ < (arrV _ _ _).slots.size; rw [arrV_size, i2]; omega⟩ c1 (fun q h => by rw [c3] at h; cases h) (by rw [c2]; exact hkC) (by rw [c2]; exact va_assign hcls) rfl rfl (mx_Dok hd) fun H1 z1 z2 z3 => ?_
        rw [i2, arrV_store] at z1
        refine hJ H1 _ lsA cells slots h1 h2 h3 hl (mx_P_upd (m' := (mm.1, mx_up mm.2.1 k i kv, mm.2.2)) hP hk z2 z3 rfl (fun a ha => ⟨mx_upo ha, rfl⟩) (Or.inr ⟨by omega, by omega, hn, ?_⟩)) (hS.put z2 z3 (by show base ≤ _; omega))
        refine z1.trans (congrArg (fun f => some (arrV (cA kd) w f)) (funext fun j => ?_))
        rw [mx_el_upr (by omega) hi.1, mx_cvr (Int.natCast_nonneg kv)]
        rfl
    · rcases v3 with a3 | a3 | a3 <;> exact False.elim hp
    · rcases v3 with a3 | a3 | a3 <;> exact False.elim hp

end SN3
