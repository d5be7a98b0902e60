/-! THE MACHINE IS SOUND, memory -/
def mx_gw : List Cond := lw_tbl.filter goodWord
theorem mx_gw_mem {w : Cond} (h : w ∈ mx_gw) : w ∈ lw_tbl ∧ goodWord w = true := List.mem_filter.mp h
theorem mx_gw_hts {args : Array Value} {s : State} (h : ∀ w ∈ lw_tbl, goodWord w = true → w.before args s = true) : ∀ w ∈ mx_gw, w.before args s = true := fun w hw => h w (mx_gw_mem hw).1 (mx_gw_mem hw).2
set_option maxRecDepth 100000 in
theorem mx_inw_ck : (mx_cl.all fun q => (u_ws q.1 q.2.1 q.2.2).all fun w => decide (w ∈ lw_tbl) && goodWord w) = true := by decide +kernel
theorem mx_inw {ci : Nat} {r : vw_C} (hc : mx_cl[ci]? = some r) : ∀ w ∈ u_ws r.1 r.2.1 r.2.2, w ∈ mx_gw := fun w hw => by
  have h1 := List.all_eq_true.mp (List.all_eq_true.mp mx_inw_ck r (List.mem_of_getElem? hc)) w hw
  obtain ⟨h2, h3⟩ := Bool.and_eq_true_iff.mp h1
  exact List.mem_filter.mpr ⟨of_decide_eq_true h2, h3⟩
theorem mx_cl_at {ci : Nat} (h : ci < 10) : mx_cl[ci]? = some (mx_cl.getD ci ("", mT_X0, 0)) := by
  have h2 : ci < mx_cl.length := h
  rw [List.getD_eq_getElem?_getD, List.getElem?_eq_getElem h2]; rfl
def mx_pf (ci k : Nat) : FieldType := (parseFieldDescriptor (mx_fld ci k).2.2.1).getD .int
def mx_isr : FieldType → Bool
  | .object _ => true
  | .array _ => true
  | _ => false
def mx_fck (ci k : Nat) : Bool := decide (parseFieldDescriptor (mx_fld ci k).2.2.1 = some (mx_pf ci k)) && (match (mx_ft.getD ci []).getD k 0 with
  | 0 => decide (mx_pf ci k = .int)
  | 1 => decide (mx_pf ci k = .long)
  | 3 => decide (mx_pf ci k = .boolean)
  | 2 => mx_isr (mx_pf ci k)
  | _ => false)
theorem mx_fck_ck : ((List.range 10).all fun ci => (List.range (mx_nf ci)).all fun k => mx_fck ci k) = true := by decide +kernel
theorem mx_fck_ok {ci k : Nat} (h : ci < 10) (hk : k < mx_nf ci) : parseFieldDescriptor (mx_fld ci k).2.2.1 = some (mx_pf ci k) ∧ (match (mx_ft.getD ci []).getD k 0 with
  | 0 => decide (mx_pf ci k = .int)
  | 1 => decide (mx_pf ci k = .long)
  | 3 => decide (mx_pf ci k = .boolean)
  | 2 => mx_isr (mx_pf ci k)
  | _ => false) = true := by
  have h1 := List.all_eq_true.mp (List.all_eq_true.mp mx_fck_ck ci (List.mem_range.mpr h)) k (List.mem_range.mpr hk)
  obtain ⟨h2, h3⟩ := Bool.and_eq_true_iff.mp h1
  exact ⟨of_decide_eq_true h2, h3⟩
theorem mx_nm_ck : ((List.range 10).all fun ci => (List.range (mx_nf ci)).all fun a => (List.range (mx_nf ci)).all fun b => decide (a = b) || decide ((mx_fld ci a).2.1 ≠ (mx_fld ci b).2.1)) = true := by decide +kernel
theorem mx_nm_ok {ci : Nat} (h : ci < 10) : ∀ a, a < mx_nf ci → ∀ b, b < mx_nf ci → a ≠ b → (mx_fld ci a).2.1 ≠ (mx_fld ci b).2.1 := by
  intro a ha b hb hab
  have h1 := List.all_eq_true.mp (List.all_eq_true.mp (List.all_eq_true.mp mx_nm_ck ci (List.mem_range.mpr h)) a (List.mem_range.mpr ha)) b (List.mem_range.mpr hb)
  rcases Bool.or_eq_true_iff.mp h1 with h2 | h2
  · exact absurd (of_decide_eq_true h2) hab
  · exact of_decide_eq_true h2
theorem mx_nf_ck : ((List.range 10).all fun ci => decide ((mx_cl.getD ci ("", mT_X0, 0)).2.2 = mx_nf ci)) = true := by decide +kernel
theorem mx_nf_ok {ci : Nat} (h : ci < 10) : (mx_cl.getD ci ("", mT_X0, 0)).2.2 = mx_nf ci := of_decide_eq_true (List.all_eq_true.mp mx_nf_ck ci (List.mem_range.mpr h))
theorem mx_fl2_ck : (mx_fl.all fun q => decide (q.2.2.1 / 256 < 10 ∧ q.2.2.1 % 256 / 4 < mx_nf (q.2.2.1 / 256) ∧ (mx_ft.getD (q.2.2.1 / 256) []).getD (q.2.2.1 % 256 / 4) 0 = mx_fty q.2.2.1)) = true := by decide +kernel
theorem mx_fl2_ok {q : Nat × Nat × Nat × Nat} (h : q ∈ mx_fl) : q.2.2.1 / 256 < 10 ∧ q.2.2.1 % 256 / 4 < mx_nf (q.2.2.1 / 256) ∧ (mx_ft.getD (q.2.2.1 / 256) []).getD (q.2.2.1 % 256 / 4) 0 = mx_fty q.2.2.1 := of_decide_eq_true (List.all_eq_true.mp mx_fl2_ck q h)
theorem mx_shpk {m : mx_M} {a : Int} {kd n : Nat} (h : mx_shp m a = (kd, n)) (h9 : kd ≠ 99) : ∃ k : Nat, a = (k : Int) ∧ m.1[k]? = some (kd, n) := by
  cases a with
  | ofNat k =>
    refine ⟨k, rfl, ?_⟩
    have h1 : m.1.getD k (99, 0) = (kd, n) := h
    rw [List.getD_eq_getElem?_getD] at h1
    cases h2 : m.1[k]? with
    | none => rw [h2] at h1; cases h1; exact absurd rfl h9
    | some x => rw [h2] at h1; exact congrArg some h1
  | negSucc k => cases h; exact absurd rfl h9
section SNE
variable {D : va_G} {cA : Nat → ClassId} {base b : Nat} {adK : Nat → Nat} {w0 : Int → Int}
theorem mx_cel_congr {m m' : mx_M} {H H' : Heap} {k kd n : Nat} (h : mx_cel D cA base b adK m H k kd n) (h1 : ∀ j : Nat, j < (if kd < 10 then mx_nf kd else n) → m'.2.1 k j = m.2.1 k j) (h2 : ∀ j : Nat, j < (if kd < 10 then mx_nf kd else n) → m'.2.2.1 k j = m.2.2.1 k j) (h3 : H'[base + k]? = H[base + k]?) : mx_cel D cA base b adK m' H' k kd n := by
  rcases h with ⟨g1, g2⟩ | ⟨g1, g2, g3, g4⟩
  · rw [if_pos g1] at h1 h2
    refine Or.inl ⟨g1, (g2.kept h3).to (fun j hj => ?_)⟩
    unfold mx_fv
    rw [h1 j hj, h2 j hj]
  · rw [if_neg (by omega)] at h1 h2
    refine Or.inr ⟨g1, g2, g3, ?_⟩
    rw [h3, g4]
    unfold arrV
    congr 3
    funext j
    unfold mx_el
    rw [h1 j.val j.isLt, h2 j.val j.isLt]
theorem mx_P_upd {m m' : mx_M} {H H' : Heap} {k kd n : Nat} (hP : mx_P D cA base b adK w0 m H) (hk : m.1[k]? = some (kd, n)) (hs : H'.size = H.size) (ho : ∀ q : Nat, q ≠ base + k → H'[q]? = H[q]?) (h1 : m'.1 = m.1)
    (h2 : ∀ (a : Int), a ≠ (k : Int) → m'.2.1 a = m.2.1 a ∧ m'.2.2.1 a = m.2.2.1 a) (hc : mx_cel D cA base b adK m' H' k kd n) : mx_P D cA base b adK w0 m' H' := by
  refine ⟨by rw [hs, h1]; exact hP.1, by rw [(h2 (-2) (by omega)).2]; exact hP.2.1, fun k2 kd2 n2 hk2 => ?_⟩
  rw [h1] at hk2
  by_cases e : k2 = k
  · subst e
    rw [hk] at hk2
    cases hk2
    exact hc
  · obtain ⟨e1, e2⟩ := h2 (k2 : Int) (by omega)
    exact mx_cel_congr (hP.2.2 k2 kd2 n2 hk2) (fun j _ => by rw [e1]) (fun j _ => by rw [e2]) (ho _ (by omega))
theorem mx_upo {S : Int → Int → Int} {a i v b' : Int} (h : b' ≠ a) : mx_up S a i v b' = S b' := funext fun j => by
  unfold mx_up
  rw [if_neg (fun q => h q.1)]
end SNE
section SN2
variable {p : Program} {l : Launch} {e : Env} {R : Room} {s : State} {m : MethodId} {args : Array Value} {below : List Frame} {meth : Method} {c : Code} {Qf : State → Prop} {D : va_G} {cA : Nat → ClassId} {base b : Nat} {adK adV : Nat → Nat} {w0 : Int → Int} {M mcT msT : Nat}
theorem mx_gf {cc : ByteArray} {cells slots pc : Nat} {H : Heap} {locs : List Loc} {ls : Array Slot} {rest : List Value} {mm : mx_M} (hx : p.tables.exec = Jvm.exec) (hb : c.code = cc) (hown : s.vm.findClass (mx_on.getD (mx_ow M) "") = some m.cls) (hts : ∀ w ∈ lw_tbl, goodWord w = true → w.before args s = true) (hK : va_K D mx_cl (mx_ty cA) s)
    {q : Nat × Nat × Nat × Nat} (hq : q ∈ mx_fl) (e1 : q.1 = mx_ow M) {k : Nat} {v : Value} (hP : mx_P D cA base b adK w0 mm H) (hk : mm.1[k]? = some (q.2.2.1 / 256, 0)) (hv : mx_fv base b adK mm (q.2.2.1 / 256) k (q.2.2.1 % 256 / 4) = v)
    (hdg : decode cc pc = .ok (.getfield q.2.1, 3)) (kk : W p l e R s m args below meth c H locs cells slots Qf (F0 m (pc + 3) ls (v :: rest))) : W p l e R s m args below meth c H locs cells slots Qf (F0 m pc ls (.ref (base + k) :: rest)) := by
  obtain ⟨f1, f2, f3⟩ := mx_fl2_ok hq
  obtain ⟨g1, g2⟩ := mx_fl_ok q hq
  rw [e1] at g1 g2
  have hc := mx_cl_at f1
  have hN := mx_nf_ok f1
  rcases hP.2.2 k _ _ hk with ⟨-, q0⟩ | ⟨q0, -⟩
  · obtain ⟨cell, c1, c2, c3, c4⟩ := q0
    obtain ⟨hS, hfc, kC, hkC, hkind⟩ := hK.1 _ _ hc
    obtain ⟨cf, kf, fi, f, hi, hsl⟩ := hS (q.2.2.1 % 256 / 4) (by rw [hN]; exact f2)
    refine W.getf hx hb hown (hts _ g1 g2) hi (u_facts hfc hkC (u_lays (mx_gw_hts hts) (mx_inw hc) (by rw [hN]; exact f2)) hi).1 c1 (by rw [c3]; exact fun h => by cases h) (v := v) ?_ rfl rfl hdg kk
    rw [hsl, c4 _ f2, hv]
  · omega
/-- a field is stored: any of its types -/
theorem mx_pfd {cc : ByteArray} {cells slots pc : Nat} {H : Heap} {locs : List Loc} {ls : Array Slot} {rest : List Value} {mm mm' : mx_M} (hx : p.tables.exec = Jvm.exec) (hb : c.code = cc) (hown : s.vm.findClass (mx_on.getD (mx_ow M) "") = some m.cls) (hts : ∀ w ∈ lw_tbl, goodWord w = true → w.before args s = true) (hK : va_K D mx_cl (mx_ty cA) s) (hbase : base ≤ s.heap.size)
    {q : Nat × Nat × Nat × Nat} (hq : q ∈ mx_fl) (e1 : q.1 = mx_ow M) {k : Nat} {v : Value} (hP : mx_P D cA base b adK w0 mm H) (hS0 : va_S (fun q => base ≤ q) s.heap H locs) (hk : mm.1[k]? = some (q.2.2.1 / 256, 0))
    (hn : narrow (mx_pf (q.2.2.1 / 256) (q.2.2.1 % 256 / 4)) v = v) (hfit : fits (mx_pf (q.2.2.1 / 256) (q.2.2.1 % 256 / 4)) v = true) (hfin : (mx_fld (q.2.2.1 / 256) (q.2.2.1 % 256 / 4)).2.2.2 = false ∨ ((mx_fld (q.2.2.1 / 256) (q.2.2.1 % 256 / 4)).2.2.2 = true ∧ meth.name = "<init>" ∧ (mx_fld (q.2.2.1 / 256) (q.2.2.1 % 256 / 4)).1 = mx_on.getD (mx_ow M) ""))
    (hm1 : mm'.1 = mm.1) (hm2 : ∀ (a : Int), a ≠ (k : Int) → mm'.2.1 a = mm.2.1 a ∧ mm'.2.2.1 a = mm.2.2.1 a) (hm3 : ∀ j, j < mx_nf (q.2.2.1 / 256) → mx_fv base b adK mm' (q.2.2.1 / 256) k j = if j = q.2.2.1 % 256 / 4 then v else mx_fv base b adK mm (q.2.2.1 / 256) k j)
    (hdg : decode cc pc = .ok (.putfield q.2.1, 3)) (kk : ∀ (H1 : Heap) (locs1 : List Loc), mx_P D cA base b adK w0 mm' H1 → va_S (fun q => base ≤ q) s.heap H1 locs1 → W p l e R s m args below meth c H1 locs1 cells slots Qf (F0 m (pc + 3) ls rest)) : W p l e R s m args below meth c H locs cells slots Qf (F0 m pc ls (v :: .ref (base + k) :: rest)) := by
  obtain ⟨f1, f2, f3⟩ := mx_fl2_ok hq
  obtain ⟨g1, g2⟩ := mx_fl_ok q hq
  rw [e1] at g1 g2
  have hc := mx_cl_at f1
  have hN := mx_nf_ok f1
  have f2' : q.2.2.1 % 256 / 4 < (mx_cl.getD (q.2.2.1 / 256) ("", mT_X0, 0)).2.2 := by rw [hN]; exact f2
  have hgw := mx_gw_hts hts
  have hap := va_apart (own := mx_on.getD (mx_ow M) "") hgw (mx_inw hc) (mx_pf (q.2.2.1 / 256)) (fun j hj => (mx_fck_ok f1 (by rw [← hN]; exact hj)).1) (fun a ha b hb => mx_nm_ok f1 a (by rw [← hN]; exact ha) b (by rw [← hN]; exact hb)) hK hc
  have hd := (mx_fck_ok f1 f2).1
  rcases hP.2.2 k _ _ hk with ⟨-, q0⟩ | ⟨q0, -⟩
  · obtain ⟨cell, c1, c2, c3, c4⟩ := q0
    obtain ⟨hS, hfc, kC, hkC, hkind⟩ := hK.1 _ _ hc
    obtain ⟨cf, kf, fi, f, hi, hsl⟩ := hS (q.2.2.1 % 256 / 4) f2'
    have hst := (u_facts hfc hkC (u_lays hgw (mx_inw hc) f2') hi).1
    have hlay := hgw _ (mx_inw hc _ (u_in_lay f2'))
    unfold u_lay at hlay
    have fin : ∀ (H' : Heap) (locs1 : List Loc), H'[base + k]? = some (cell.setSlot f.slot v) → H'.size = H.size → (∀ z, z ≠ base + k → H'[z]? = H[z]?) → W p l e R s m args below meth c H' (locs ++ [⟨base + k, f.slot⟩]) cells slots Qf (F0 m (pc + 3) ls rest) := by
      intro H' locs1 z1 z2 z3
      rw [hsl] at z1 ⊢
      refine kk H' _ (mx_P_upd hP hk z2 z3 hm1 hm2 (Or.inl ⟨f1, t_OB.to (V := updV (mx_fv base b adK mm (q.2.2.1 / 256) k) (q.2.2.1 % 256 / 4) v) ⟨_, z1, c2, c3, ?_⟩ (fun j hj => ?_)⟩)) (hS0.put z2 z3 (by show base ≤ _; omega))
      · have := t_set (N := mx_nf (q.2.2.1 / 256)) c4 (fun a b ha hb => hap a b (by rw [hN]; exact ha) (by rw [hN]; exact hb)) f2 v
        exact this
      · rw [hm3 j hj]
        rfl
    rcases hfin with hfin | ⟨hfin, hin2, hdecl⟩
    · have hfin' : ¬ ((mx_cl.getD (q.2.2.1 / 256) ("", mT_X0, 0)).2.1 (q.2.2.1 % 256 / 4)).2.2.2 = true := by rw [show ((mx_cl.getD (q.2.2.1 / 256) ("", mT_X0, 0)).2.1 (q.2.2.1 % 256 / 4)).2.2.2 = false from hfin]; decide
      rw [if_neg hfin'] at hlay
      have h6 := u_store hfc hkC hkind hlay hi hd hn hfit
      exact W.putK hx hb (f := f) ⟨hown, hts _ g1 g2, ⟨_, _, _, hi⟩, hst⟩ (by rw [c2]; exact h6) c1 c3 (by rw [hsl]; exact k2_hasslot (c4 _ f2)) rfl rfl hdg fun H' z1 z2 z3 => fin H' [] z1 z2 z3
    · have hfin' : ((mx_cl.getD (q.2.2.1 / 256) ("", mT_X0, 0)).2.1 (q.2.2.1 % 256 / 4)).2.2.2 = true := hfin
      rw [if_pos hfin'] at hlay
      have hcf : m.cls = cf := by
        obtain ⟨_, _, c', _, _, _, -, -, hf', -, -, -, hown2, -⟩ := Cond.laysFinal_spec hlay
        have e1 : c' = cf := by have := hi.symm.trans hf'; simp at this; exact this.1.symm
        have hdecl' : ((mx_cl.getD (q.2.2.1 / 256) ("", mT_X0, 0)).2.1 (q.2.2.1 % 256 / 4)).1 = mx_on.getD (mx_ow M) "" := hdecl
        rw [hdecl'] at hown2
        rw [← e1]; exact Option.some.inj (hown.symm.trans hown2)
      have h6 := u_fits hfc hkC hkind (Or.inr hlay) hi hd hn hfit
      exact W.putFinK hx hb hown (hts _ g1 g2) hi hst hcf hin2 (by rw [c2]; exact h6) c1 c3 (by rw [hsl]; exact k2_hasslot (c4 _ f2)) rfl rfl hdg fun H' z1 z2 z3 => fin H' [] z1 z2 z3
  · omega
end SN2
