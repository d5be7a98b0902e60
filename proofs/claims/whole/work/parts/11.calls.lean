/-! THE MACHINE IS SOUND, calls and ends -/
abbrev mx_rw (y : Nat) : MethodName × Nat × ByteArray × Nat × Option FieldType × Nat × Nat × Bool := if y = 300 then (⟨"java/lang/String", "length", "()I"⟩, 15, prog_16_method_54_code, 1, some .int, 0, 99, false) else if y = 301 then (⟨"java/lang/String", "charAt", "(I)C"⟩, 15, prog_16_method_56_code, 2, some .char, 1, 99, false) else mx_row y
def mx_ws (y : Nat) : List Cond := .code (mx_rw y).1 (mx_rw y).2.2.1 (mx_rw y).2.2.2.1 (mx_rw y).2.2.2.2.1 :: mx_gw
def mx_post (ret : Option FieldType) (Q : mx_Q) (PP : mx_M → State → Prop) (A : Nat → Prop) : Array Value → State → Outcome → State → Prop := match ret with
  | none => va_Qv (fun u => Q none u) PP A
  | some .long => va_Ql (fun r u => ∃ e : Int, r = Int64.ofInt e ∧ Q (some (.inr (.inl e))) u) PP A
  | some _ => va_Qi (fun r u => ∃ e : Int, r = Int32.ofInt e ∧ Q (some (.inl e)) u) PP A
def mx_len8 : List Nat := mx_st.map (fun t => t.length)
def mx_byt8 : List (List Int32) := mx_st.map (fun t => t.toList.map (fun ch => Int32.ofNat ch.toNat))
/-- what stands of the JDK: the literals, two static fields -/
def mx_St (base : Nat) (adK adV : Nat → Nat) (U : State) (H : Heap) : Prop := vk_S 8 mx_len8 mx_byt8 adK adV (fun q => base ≤ q) U H ∧ va_Z "java/lang/String" "COMPACT_STRINGS" "Z" (.int 1) (fun q => base ≤ q) U H ∧ ∃ v : Value, (v = .null ∨ ∃ q : Nat, v = .ref q) ∧ va_Z "jdk/internal/util/Preconditions" "SIOOBE_FORMATTER" "Ljava/util/function/BiFunction;" v (fun q => base ≤ q) U H
theorem mx_St.moved {base : Nat} {adK adV : Nat → Nat} {u U : State} {H : Heap} (hvm : u.vm.Alike U.vm) (h : mx_St base adK adV u H) : mx_St base adK adV U H :=
  ⟨vk_S.moved hvm h.1, va_Z.moved hvm h.2.1, h.2.2.imp fun _ q => ⟨q.1, va_Z.moved hvm q.2⟩⟩
theorem mx_St.kept {base : Nat} {adK adV : Nat → Nat} {U : State} {H H1 : Heap} (h : mx_St base adK adV U H) (hq : ∀ a : Nat, a < H.size → ¬ (fun q => base ≤ q) a → H1[a]? = H[a]?) : mx_St base adK adV U H1 :=
  ⟨h.1.kept hq, h.2.1.kept hq, h.2.2.imp fun _ q => ⟨q.1, q.2.kept hq⟩⟩
def mx_U (D : va_G) (cA : Nat → ClassId) (base b : Nat) (adK adV : Nat → Nat) (w0 : Int → Int) (mm : mx_M) (U : State) : Prop := mx_P D cA base b adK w0 mm U.heap ∧ va_K D mx_cl (mx_ty cA) U ∧ mx_E base adK adV U ∧ mx_St base adK adV U U.heap
/-- the contract of method y, at most d frames deep -/
def mx_Con (D : va_G) (cA : Nat → ClassId) (base b : Nat) (adK adV : Nat → Nat) (w0 : Int → Int) (d y : Nat) (as : List mx_V) (mm : mx_M) (Q : mx_Q) : Prop :=
  ∀ l : Launch, Met l (mx_rw y).1 (mx_ws y) ({ frames := d, cells := mm.2.2.2.1, slots := mm.2.2.2.2, locals := 36 * d }) (va_Pc (as.map (mx_cv base b adK)) (mx_U D cA base b adK adV w0 mm))
    (mx_post (mx_rw y).2.2.2.2.1 Q (fun u t => mx_P D cA base b adK w0 u t.heap) (fun q => base ≤ q)) mm.2.2.2.1 mm.2.2.2.2 (fun q => base ≤ q)
theorem mx_AO.moved {ty : FieldType} {u U : State} (hvm : u.vm.Alike U.vm) (h : mx_AO ty u) : mx_AO ty U := by
  have h1 : (Cond.arrayOver ty).before #[] (u.setVm U.vm) = true := by rw [Cond.arrayOver_setVmC hvm]; exact h
  exact h1
theorem mx_E.warm {base : Nat} {adK adV : Nat → Nat} {u U : State} (hW : u.WarmedH U.vm) (h : mx_E base adK adV u) : mx_E base adK adV U :=
  ⟨fun q hq => va_Nw.warmM hW (h.1 q hq), ⟨va_AO.moved hW.alike h.2.1.1, va_AO.moved hW.alike h.2.1.2.1, mx_AO.moved hW.alike h.2.1.2.2⟩, fun q hq => (h.2.2 q hq).warm hW⟩
theorem mx_E.same {base : Nat} {adK adV : Nat → Nat} {u U : State} (hv : U.vm = u.vm) (h : mx_E base adK adV u) : mx_E base adK adV U :=
  ⟨fun q hq => va_Nw.same rfl hv.symm (h.1 q hq), ⟨va_AO.moved (by rw [hv]; exact Vm.Alike.refl _) h.2.1.1, va_AO.moved (by rw [hv]; exact Vm.Alike.refl _) h.2.1.2.1, mx_AO.moved (by rw [hv]; exact Vm.Alike.refl _) h.2.1.2.2⟩, fun q hq => (h.2.2 q hq).same hv⟩
theorem mx_blind {D : va_G} {cA : Nat → ClassId} {base b : Nat} {adK adV : Nat → Nat} {w0 : Int → Int} {av : List Value} {mm : mx_M} : FrameBlind (va_Pc av (mx_U D cA base b adK adV w0 mm)) := fun a U g mk q =>
  ⟨q.1, q.2.1, va_K.moved (u := U) (U := U.calling g mk a) (Vm.Alike.refl U.vm) q.2.2.1, mx_E.same (u := U) (U := U.calling g mk a) rfl q.2.2.2.1, mx_St.moved (u := U) (U := U.calling g mk a) (Vm.Alike.refl U.vm) q.2.2.2.2⟩
/-! each method's words are there -/
def mx_yck (y : Nat) : Bool := let r := mx_row y; let w := mx_mw.getD y (0, 0, 0, 0)
  (lw_tbl[w.1]? == some (.code r.1 r.2.2.1 r.2.2.2.1 r.2.2.2.2.1) && goodWord (.code r.1 r.2.2.1 r.2.2.2.1 r.2.2.2.2.1)) &&
  ((bif r.2.2.2.2.2.2.2 then lw_tbl[w.2.1]? == some (.static r.1) && goodWord (.static r.1) else lw_tbl[w.2.1]? == some (.instanceMethod r.1) && goodWord (.instanceMethod r.1)) &&
  ((r.2.2.2.2.2.2.2 || (r.1.name == "<init>" || (lw_tbl[w.2.2.1]? == some (.selects r.1.cls r.1 r.1) && goodWord (.selects r.1.cls r.1 r.1)))) &&
  ((lw_tbl[w.2.2.2]? == some (.initialized r.1.cls) && goodWord (.initialized r.1.cls)) &&
  (decide (r.1.cls ≠ "java/lang/invoke/MethodHandle" ∧ r.1.cls ≠ "java/lang/invoke/VarHandle" ∧ (parseMethodDescriptor r.1.desc).map (fun d => d.parameters.length) = some r.2.2.2.2.2.1 ∧ plainName r.1.cls = true ∧ mx_on.getD r.2.1 "" = r.1.cls ∧ r.2.2.2.1 ≤ 17) &&
  (Nat.ble 10 r.2.2.2.2.2.2.1 || decide ((mx_cl.getD r.2.2.2.2.2.2.1 ("", mT_X0, 0)).1 = r.1.cls))))))
set_option maxRecDepth 100000 in
theorem mx_ml_ck : (mx_ml.all fun q => (lw_tbl[q.2.2.2]? == some (.methodLink (mx_on.getD q.1 "") q.2.1 (mx_row q.2.2.1).1) && goodWord (.methodLink (mx_on.getD q.1 "") q.2.1 (mx_row q.2.2.1).1)) && (Nat.blt q.2.2.1 194 && !Nat.beq q.2.2.1 0)) = true := by decide +kernel
theorem mx_ml_ok {q : Nat × Nat × Nat × Nat} (h : q ∈ mx_ml) : (Cond.methodLink (mx_on.getD q.1 "") q.2.1 (mx_row q.2.2.1).1 ∈ lw_tbl ∧ goodWord (Cond.methodLink (mx_on.getD q.1 "") q.2.1 (mx_row q.2.2.1).1) = true) ∧ q.2.2.1 < 194 ∧ q.2.2.1 ≠ 0 := by
  have h1 := List.all_eq_true.mp mx_ml_ck q h
  obtain ⟨h2, h3⟩ := Bool.and_eq_true_iff.mp h1
  obtain ⟨h4, h5⟩ := Bool.and_eq_true_iff.mp h3
  refine ⟨mx_in h2, Nat.le_of_ble_eq_true h4, fun h6 => ?_⟩
  rw [h6] at h5
  cases h5
theorem mx_nl_ck : (mx_nl.all fun q => Nat.blt q.2.2.1 194 && !Nat.beq q.2.2.1 0) = true := by decide +kernel
theorem mx_nl_ok {q : Nat × Nat × Nat × Nat} (h : q ∈ mx_nl) : q.2.2.1 < 194 ∧ q.2.2.1 ≠ 0 := by
  obtain ⟨h4, h5⟩ := Bool.and_eq_true_iff.mp (List.all_eq_true.mp mx_nl_ck q h)
  refine ⟨Nat.le_of_ble_eq_true h4, fun h6 => ?_⟩
  rw [h6] at h5
  cases h5
def mx_sy (j : Nat) : Nat := if j = 0 then 300 else 301
def mx_sck (j i : Nat) (o : Nat) (pos : Nat) : Bool := let r := mx_rw (mx_sy j)
  (lw_tbl[pos]? == some (.methodLink (mx_on.getD o "") i r.1) && goodWord (.methodLink (mx_on.getD o "") i r.1)) &&
  ((decide (Cond.code r.1 r.2.2.1 r.2.2.2.1 r.2.2.2.2.1 ∈ lw_tbl) && goodWord (.code r.1 r.2.2.1 r.2.2.2.1 r.2.2.2.2.1)) && ((decide (Cond.instanceMethod r.1 ∈ lw_tbl) && goodWord (.instanceMethod r.1)) && ((decide (Cond.selects r.1.cls r.1 r.1 ∈ lw_tbl) && goodWord (.selects r.1.cls r.1 r.1)) && ((decide (Cond.initialized r.1.cls ∈ lw_tbl) && goodWord (.initialized r.1.cls)) &&
  decide (r.1.cls ≠ "java/lang/invoke/MethodHandle" ∧ r.1.cls ≠ "java/lang/invoke/VarHandle" ∧ (parseMethodDescriptor r.1.desc).map (fun d => d.parameters.length) = some r.2.2.2.2.2.1)))))
set_option maxRecDepth 100000 in
theorem mx_str_ck : (mx_sl.all fun q => Nat.ble 2 q.2.2.1 || mx_sck q.2.2.1 q.2.1 q.1 q.2.2.2) = true := by decide +kernel
theorem mx_str_ok {q : Nat × Nat × Nat × Nat} (h : q ∈ mx_sl) (h2 : q.2.2.1 < 2) : mx_sck q.2.2.1 q.2.1 q.1 q.2.2.2 = true := by
  have h1 := List.all_eq_true.mp mx_str_ck q h
  rcases Bool.or_eq_true_iff.mp h1 with h3 | h3
  · have := Nat.le_of_ble_eq_true h3; omega
  · exact h3
theorem mx_rwr {y : Nat} (h : y < 194) : mx_rw y = mx_row y := by
  show (if _ then _ else if _ then _ else _) = _
  rw [if_neg (by omega), if_neg (by omega)]
theorem mx_good {w : Cond} (h : w ∈ lw_tbl ∧ goodWord w = true) : w ∈ mx_gw := List.mem_filter.mpr h
theorem mx_wsg {y : Nat} (h : Cond.code (mx_rw y).1 (mx_rw y).2.2.1 (mx_rw y).2.2.2.1 (mx_rw y).2.2.2.2.1 ∈ lw_tbl ∧ goodWord (Cond.code (mx_rw y).1 (mx_rw y).2.2.1 (mx_rw y).2.2.2.1 (mx_rw y).2.2.2.2.1) = true) : GoodIn mx_gw (mx_ws y) := fun w hw => by
  rcases List.mem_cons.mp hw with rfl | hw
  · exact ⟨mx_good h, good_of_word h.2⟩
  · exact ⟨hw, good_of_word (mx_gw_mem hw).2⟩
theorem mx_P_eqv {D : va_G} {cA : Nat → ClassId} {base b : Nat} {adK : Nat → Nat} {w0 : Int → Int} {m m' : mx_M} {H : Heap} (h : mx_eqv m m') (hP : mx_P D cA base b adK w0 m H) : mx_P D cA base b adK w0 m' H := by
  obtain ⟨h1, -, -, h4, h5⟩ := h
  refine ⟨by rw [← h1]; exact hP.1, by rw [← h4]; exact hP.2.1, fun k kd n hk => ?_⟩
  rw [← h1] at hk
  exact mx_cel_congr (hP.2.2 k kd n hk) (fun j hj => ((h5 k kd n j hk hj).1).symm) (fun j hj => ((h5 k kd n j hk hj).2).symm) rfl
section SNC
variable {p : Program} {l : Launch} {e : Env} {R : Room} {s : State} {m : MethodId} {args : Array Value} {below : List Frame} {meth : Method} {c : Code} {Qf : State → Prop} {D : va_G} {cA : Nat → ClassId} {base b : Nat} {adK adV : Nat → Nat} {w0 : Int → Int} {M mcT msT : Nat}
theorem mx_fin {ret : Option FieldType} {mid : mx_Q} {H : Heap} {locs : List Loc} {cells slots bc bs pc : Nat} {ls : Array Slot} {st0 rest : List Value} {a : Array Value} (hr : va_Run p l e R s m args below meth c H locs cells slots bc bs (F0 m pc ls st0) rest (mx_post ret mid (fun u t => mx_P D cA base b adK w0 u t.heap) (fun q => base ≤ q) a) (fun q => base ≤ q)) (hS : va_S (fun q => base ≤ q) s.heap H locs)
    (kk : ∀ (v : Option mx_V) (u : mx_M) (H1 : Heap) (locs1 : List Loc), mid v u → mx_P D cA base b adK w0 u H1 → va_S (fun q => base ≤ q) s.heap H1 locs1 → W p l e R s m args below meth c H1 locs1 (cells + bc) (slots + bs) Qf (F0 m (pc + 3) ls ((mx_psh v []).map (mx_cv base b adK) ++ rest))) : W p l e R s m args below meth c H locs cells slots Qf (F0 m pc ls st0) := by
  have hi : ∀ (hr : va_Run p l e R s m args below meth c H locs cells slots bc bs (F0 m pc ls st0) rest (va_Qi (fun r u => ∃ e : Int, r = Int32.ofInt e ∧ mid (some (.inl e)) u) (fun u t => mx_P D cA base b adK w0 u t.heap) (fun q => base ≤ q) a) (fun q => base ≤ q)), W p l e R s m args below meth c H locs cells slots Qf (F0 m pc ls st0) := fun hr =>
    va_calli (a := a) hr hS (fun q _ h => h) (fun q h => h) (fun r u t H1 locs1 ht hvm hw hB _ _ hS1 => by
      obtain ⟨e, rfl, hw⟩ := hw
      exact kk (some (.inl e)) u H1 locs1 hw (by rw [← ht]; exact hB) hS1)
  cases ret with
  | none => exact va_callv (a := a) hr hS (fun q _ h => h) (fun q h => h) (fun u t H1 locs1 ht hvm hw hB _ _ hS1 => kk none u H1 locs1 hw (by rw [← ht]; exact hB) hS1)
  | some ft =>
    cases ft with
    | long => exact va_calll (a := a) hr hS (fun q _ h => h) (fun q h => h) (fun r u t H1 locs1 ht hvm hw hB _ _ hS1 => by
        obtain ⟨e, rfl, hw⟩ := hw
        exact kk (some (.inr (.inl e))) u H1 locs1 hw (by rw [← ht]; exact hB) hS1)
    | _ => exact hi hr
theorem mx_s_call {d pc : Nat} {ai : Instr} {n : Nat} {z : Int} {ls : mx_L} {st : List mx_V} {mm : mx_M} (hX : mx_X M p s m args meth c D cA base b adK adV w0) (hSt : mx_St base adK adV s s.heap) (hR : mcT ≤ R.cells ∧ msT ≤ R.slots ∧ d + 1 ≤ R.frames ∧ 36 + 36 * d ≤ R.locals) (hyk : ∀ y, y < 194 → y ≠ 0 → mx_yck y = true) (hcl : ∀ y as mm Q, mx_call d y as mm Q → mx_Con D cA base b adK adV w0 d y as mm Q)
    (hd0 : mx_dk M pc ai n z = true) {y k : Nat} {as r : List mx_V} {mid : mx_Q} {bc bs : Nat} (hcal : mx_cal ai = some (y, k)) (hst : st = as.reverse ++ r) (hlen : as.length = mx_nA y) (hcat : (r.map mx_cat).sum ≤ 8) (hrecv : k ≠ 1 → k ≠ 4 → ∃ a t, as = .inr (.inr a) :: t ∧ mx_shp mm a = ((mx_row y).2.2.2.2.2.2.1, 0)) (hbc : bc ≤ mm.2.2.2.1) (hbs : bs ≤ mm.2.2.2.2)
    (hcall : mx_call d y as (mx_sb mm bc bs) mid) (hJ : ∀ v m', mid v m' → m'.2.2.1 (-2) = mm.2.2.1 (-2) → mx_J p l e R s m args below meth c Qf D cA base b adK w0 M mcT msT (pc + 3, ls, mx_psh v r, mx_sb m' (mm.2.2.2.1 - bc) (mm.2.2.2.2 - bs))) : mx_J p l e R s m args below meth c Qf D cA base b adK w0 M mcT msT (pc, ls, st, mm) := by
  subst hst
  obtain ⟨hx, hb, hml, hown, hts, hK, hbase, hE, hnm, hsc⟩ := hX
  intro H locs lsA cells slots h1 h2 h3 hl hP hS
  have h1 : cells + mm.2.2.2.1 = mcT := h1
  have h2 : slots + mm.2.2.2.2 = msT := h2
  have hP : mx_P D cA base b adK w0 mm H := hP
  have hM := hcl _ _ _ _ hcall l
  have hgw := mx_gw_hts hts
  have hsum : ((r.map (mx_cv base b adK)).map fun v => v.category).sum ≤ 8 := by
    rw [List.map_map]
    rw [show ((fun v => Value.category v) ∘ mx_cv base b adK) = mx_cat from funext fun v => mx_cvcat _ _ _ v]
    exact hcat
  have hfin : ∀ (v : Option mx_V) (u : mx_M) (H1 : Heap) (locs1 : List Loc), mid v u → mx_P D cA base b adK w0 u H1 → va_S (fun q => base ≤ q) s.heap H1 locs1 → W p l e R s m args below meth c H1 locs1 (cells + bc) (slots + bs) Qf (F0 m (pc + 3) lsA ((mx_psh v []).map (mx_cv base b adK) ++ r.map (mx_cv base b adK))) := by
    intro v u H1 locs1 g1 g2 g3
    have h6 := hJ v u g1 (by rw [g2.2.1, hP.2.1]) H1 locs1 lsA (cells + bc) (slots + bs) (by show cells + bc + (mm.2.2.2.1 - bc) = mcT; omega) (by show slots + bs + (mm.2.2.2.2 - bs) = msT; omega) h3 hl g2 g3
    have e9 : (mx_psh v []).map (mx_cv base b adK) ++ r.map (mx_cv base b adK) = (mx_psh v r).map (mx_cv base b adK) := by cases v <;> rfl
    rw [e9]
    exact h6
  have hUU : ∀ U : State, U.heap = H → s.WarmedH U.vm → mx_U D cA base b adK adV w0 (mx_sb mm bc bs) U := fun U hU hW => ⟨by rw [hU]; exact hP, va_K.moved hW.alike hK, mx_E.warm hW hE, mx_St.moved hW.alike (by rw [hU]; exact hSt.kept hS.2.1)⟩
  have hstk : (as.reverse ++ r).map (mx_cv base b adK) = (as.map (mx_cv base b adK)).reverse ++ r.map (mx_cv base b adK) := by rw [List.map_append, List.map_reverse]
  show W _ _ _ _ _ _ _ _ _ _ _ _ _ _ _ (F0 m pc lsA ((as.reverse ++ r).map (mx_cv base b adK)))
  rw [hstk]
  have reg : ∀ {y : Nat}, y < 194 → y ≠ 0 → (((Cond.code (mx_row y).1 (mx_row y).2.2.1 (mx_row y).2.2.2.1 (mx_row y).2.2.2.2.1 ∈ lw_tbl ∧ goodWord (Cond.code (mx_row y).1 (mx_row y).2.2.1 (mx_row y).2.2.2.1 (mx_row y).2.2.2.2.1) = true) ∧ ((mx_row y).2.2.2.2.2.2.2 = true → (Cond.static (mx_row y).1).before args s = true) ∧ ((mx_row y).2.2.2.2.2.2.2 = false → (Cond.instanceMethod (mx_row y).1).before args s = true) ∧ ((mx_row y).2.2.2.2.2.2.2 = false → (mx_row y).1.name ≠ "<init>" → (Cond.selects (mx_row y).1.cls (mx_row y).1 (mx_row y).1).before args s = true) ∧ (Cond.initialized (mx_row y).1.cls).before args s = true) ∧
      ((mx_row y).1.cls ≠ "java/lang/invoke/MethodHandle" ∧ (mx_row y).1.cls ≠ "java/lang/invoke/VarHandle") ∧ (∀ sig, parseMethodDescriptor (mx_row y).1.desc = some sig → (mx_row y).2.2.2.2.2.1 = sig.parameters.length) ∧ (mx_row y).2.2.2.1 ≤ 17 ∧ ((mx_row y).2.2.2.2.2.2.1 < 10 → (mx_cl.getD (mx_row y).2.2.2.2.2.2.1 ("", mT_X0, 0)).1 = (mx_row y).1.cls)) := by
    intro y hy hy0
    have hk := hyk y hy hy0
    unfold mx_yck at hk
    simp only [Bool.and_eq_true] at hk
    obtain ⟨k1, k2, k3, k4, k5, k6⟩ := hk
    have k1 := mx_in (by rw [Bool.and_eq_true]; exact k1)
    have k4 := mx_in (by rw [Bool.and_eq_true]; exact k4)
    have k5 := of_decide_eq_true k5
    refine ⟨⟨k1, fun hs => ?_, fun hs => ?_, fun hs hn => ?_, hts _ k4.1 k4.2⟩, ⟨k5.1, k5.2.1⟩, fun sig hsig => ?_, k5.2.2.2.2.2, fun h10 => ?_⟩
    · rw [hs] at k2
      have := mx_in k2
      exact hts _ this.1 this.2
    · rw [hs] at k2
      have := mx_in k2
      exact hts _ this.1 this.2
    · rw [hs] at k3
      simp only [Bool.false_or, Bool.or_eq_true] at k3
      rcases k3 with k3 | k3
      · exact absurd (by simpa using k3) hn
      · have := mx_in k3
        exact hts _ this.1 this.2
    · have h9 := k5.2.2.1
      rw [hsig] at h9
      exact (Option.some.inj h9).symm
    · rcases Bool.or_eq_true_iff.mp k6 with h9 | h9
      · have := Nat.le_of_ble_eq_true h9; omega
      · exact of_decide_eq_true h9
  cases ai
  case invokevirtual y0 =>
    cases hcal
    have hd := List.any_eq_true.mp (show List.any _ _ = true from hd0)
    obtain ⟨q, hq, hd⟩ := hd
    replace hd := of_decide_eq_true hd
    obtain ⟨e1, rfl, rfl, hsta, hkc, hni, hd⟩ := hd
    obtain ⟨⟨l1, l2⟩, hy, hy0⟩ := mx_ml_ok hq
    rw [e1] at l1 l2
    obtain ⟨⟨w1, w2, w3, w4, w5⟩, w6, w7, w8, w9⟩ := reg hy hy0
    obtain ⟨a, t, rfl, hsh⟩ := hrecv (by decide) (by decide)
    obtain ⟨ka, rfl, hka⟩ := mx_shpk hsh (by omega)
    have hcell : ∃ cellB : Cell, H[base + ka]? = some cellB ∧ cellB.vm.isStatics = false ∧ s.vm.findClass (mx_row q.2.2.1).1.cls = some cellB.cls := by
      rcases hP.2.2 ka _ _ hka with ⟨-, q0⟩ | ⟨q0, -⟩
      · obtain ⟨cell, c1, c2, c3, -⟩ := q0
        refine ⟨cell, c1, by rw [c3]; rfl, ?_⟩
        rw [c2, ← w9 hkc]
        exact (hK.1 _ _ (mx_cl_at hkc)).2.1
      · omega
    have hnn : t.length = (mx_row q.2.2.1).2.2.2.2.2.1 := by
      have h9 : t.length + 1 = mx_nA q.2.2.1 := hlen
      unfold mx_nA at h9
      rw [if_neg (by omega), if_neg (by omega), hsta] at h9
      simpa using h9
    rw [mx_rwr hy] at hM
    refine mx_fin (bc := bc) (bs := bs) (va_runV (n := (mx_row q.2.2.1).2.2.2.2.2.1) (As := t.map (mx_cv base b adK)) (b := base + ka) (C := (mx_row q.2.2.1).1.cls) (bytes := (mx_row q.2.2.1).2.2.1) (maxL := (mx_row q.2.2.1).2.2.2.1) (ret := (mx_row q.2.2.1).2.2.2.2.1) ⟨hx, hb, hml, hown, hgw⟩ hM
      ⟨⟨rfl, rfl, hR.2.2.1, by show 8 + (_ + 11) + 36 * d ≤ _; have := hR.2.2.2; omega, pay_in hgw (mx_wsg (by rw [mx_rwr hy]; exact w1)), by rw [mx_ws, mx_rwr hy]; exact List.mem_cons_self, hts _ w1.1 w1.2, w5, w6, w7, hts _ l1 l2⟩, w3 hsta, w4 hsta hni⟩
      ⟨mx_blind, hcell, fun U hU hW => ⟨?_, hUU U hU hW⟩⟩ rfl (by rw [List.length_map]; exact hnn) hl.1 ?_ (lv_room hsum) (mx_Dok hd) ⟨by show cells + bc ≤ _; omega, by show slots + bs ≤ _; omega⟩) hS hfin
    · rw [List.map_cons, mx_cvr (Int.natCast_nonneg ka)]; rfl
    · show (List.map _ _).reverse ++ _ = _
      rw [List.map_cons, List.reverse_cons, mx_cvr (Int.natCast_nonneg ka), List.append_assoc]
      rfl
  case invokestatic y0 =>
    cases hcal
    have hd := List.any_eq_true.mp (show List.any _ _ = true from hd0)
    obtain ⟨q, hq, hd⟩ := hd
    replace hd := of_decide_eq_true hd
    obtain ⟨e1, rfl, rfl, hsta, hd⟩ := hd
    obtain ⟨⟨l1, l2⟩, hy, hy0⟩ := mx_ml_ok hq
    rw [e1] at l1 l2
    obtain ⟨⟨w1, w2, w3, w4, w5⟩, w6, w7, w8, w9⟩ := reg hy hy0
    have hnn : as.length = (mx_row q.2.2.1).2.2.2.2.2.1 := by
      have h9 : as.length = mx_nA q.2.2.1 := hlen
      unfold mx_nA at h9
      rw [if_neg (by omega), if_neg (by omega), hsta] at h9
      simpa using h9
    rw [mx_rwr hy] at hM
    exact mx_fin (bc := bc) (bs := bs) (va_runS (n := (mx_row q.2.2.1).2.2.2.2.2.1) (As := as.map (mx_cv base b adK)) (bytes := (mx_row q.2.2.1).2.2.1) (maxL := (mx_row q.2.2.1).2.2.2.1) (ret := (mx_row q.2.2.1).2.2.2.2.1) ⟨hx, hb, hml, hown, hgw⟩ hM
      ⟨⟨rfl, rfl, hR.2.2.1, by show 8 + (_ + 11) + 36 * d ≤ _; have := hR.2.2.2; omega, pay_in hgw (mx_wsg (by rw [mx_rwr hy]; exact w1)), by rw [mx_ws, mx_rwr hy]; exact List.mem_cons_self, hts _ w1.1 w1.2, w5, w6, w7, hts _ l1 l2⟩, w2 hsta⟩
      ⟨mx_blind, fun U hU hW => ⟨rfl, hUU U hU hW⟩⟩ rfl (by rw [List.length_map]; exact hnn) hl.1 rfl (lv_room hsum) (mx_Dok hd) ⟨by show cells + bc ≤ _; omega, by show slots + bs ≤ _; omega⟩) hS hfin
  case invokespecial y0 =>
    cases hcal
    have hd := List.any_eq_true.mp (show List.any _ _ = true from hd0)
    obtain ⟨q, hq, hd⟩ := hd
    replace hd := of_decide_eq_true hd
    obtain ⟨e1, rfl, rfl, hsta, hkc, hni, hrt, hd⟩ := hd
    obtain ⟨⟨l1, l2⟩, hy, hy0⟩ := mx_ml_ok hq
    rw [e1] at l1 l2
    obtain ⟨⟨w1, w2, w3, w4, w5⟩, w6, w7, w8, w9⟩ := reg hy hy0
    obtain ⟨a, t, rfl, hsh⟩ := hrecv (by decide) (by decide)
    obtain ⟨ka, rfl, hka⟩ := mx_shpk hsh (by omega)
    have hnn : t.length = (mx_row q.2.2.1).2.2.2.2.2.1 := by
      have h9 : t.length + 1 = mx_nA q.2.2.1 := hlen
      unfold mx_nA at h9
      rw [if_neg (by omega), if_neg (by omega), hsta] at h9
      simpa using h9
    rw [mx_rwr hy] at hM
    rw [hrt] at hM w1
    have hws : mx_ws q.2.2.1 = Cond.code (mx_row q.2.2.1).1 (mx_row q.2.2.1).2.2.1 (mx_row q.2.2.1).2.2.2.1 none :: mx_gw := by rw [mx_ws, mx_rwr hy, hrt]
    refine mx_fin (ret := none) (bc := bc) (bs := bs) (va_runI (n := (mx_row q.2.2.1).2.2.2.2.2.1) (As := t.map (mx_cv base b adK)) (b := base + ka) (bytes := (mx_row q.2.2.1).2.2.1) (maxL := (mx_row q.2.2.1).2.2.2.1) ⟨hx, hb, hml, hown, hgw⟩ hM
      ⟨⟨rfl, rfl, hR.2.2.1, by show 8 + (_ + 11) + 36 * d ≤ _; have := hR.2.2.2; omega, pay_in hgw (mx_wsg (by rw [mx_rwr hy, hrt]; exact w1)), by rw [hws]; exact List.mem_cons_self, hts _ w1.1 w1.2, w5, w6, w7, hts _ l1 l2⟩, hni, w3 hsta⟩
      ⟨mx_blind, fun U hU hW => ⟨?_, hUU U hU hW⟩⟩ rfl (by rw [List.length_map]; exact hnn) hl.1 ?_ (lv_room hsum) (mx_Dok hd) ⟨by show cells + bc ≤ _; omega, by show slots + bs ≤ _; omega⟩) hS hfin
    · rw [List.map_cons, mx_cvr (Int.natCast_nonneg ka)]; rfl
    · show (List.map _ _).reverse ++ _ = _
      rw [List.map_cons, List.reverse_cons, mx_cvr (Int.natCast_nonneg ka), List.append_assoc]
      rfl
  case jsr t0 =>
    cases hcal
    have hd := List.any_eq_true.mp (show List.any _ _ = true from hd0)
    obtain ⟨q, hq, hd⟩ := hd
    replace hd := of_decide_eq_true hd
    obtain ⟨e1, rfl, rfl, hsta, hkc, hni, hrt, hd⟩ := hd
    obtain ⟨hy, hy0⟩ := mx_nl_ok hq
    have hlk := hE.1 q hq
    rw [e1] at hlk
    have hsta : (mx_row q.2.2.1).2.2.2.2.2.2.2 = false := hsta
    have hkc : (mx_row q.2.2.1).2.2.2.2.2.2.1 < 10 := hkc
    have hni : (mx_row q.2.2.1).1.name = "<init>" := hni
    have hrt : (mx_row q.2.2.1).2.2.2.2.1 = none := hrt
    have hlen : as.length = mx_nA q.2.2.1 := hlen
    have hM : Met l (mx_rw q.2.2.1).1 (mx_ws q.2.2.1) _ _ (mx_post (mx_rw q.2.2.1).2.2.2.2.1 mid _ _) _ _ _ := hM
    obtain ⟨⟨w1, w2, w3, w4, w5⟩, w6, w7, w8, w9⟩ := reg hy hy0
    obtain ⟨a, t, rfl, hsh⟩ := hrecv (by decide) (by decide)
    have hsh : mx_shp mm a = ((mx_row q.2.2.1).2.2.2.2.2.2.1, 0) := hsh
    obtain ⟨ka, rfl, hka⟩ := mx_shpk hsh (by omega)
    have hnn : t.length = (mx_row q.2.2.1).2.2.2.2.2.1 := by
      have h9 : t.length + 1 = mx_nA q.2.2.1 := hlen
      unfold mx_nA at h9
      rw [if_neg (by omega), if_neg (by omega), hsta] at h9
      simpa using h9
    rw [mx_rwr hy] at hM
    rw [hrt] at hM w1
    have hws : mx_ws q.2.2.1 = Cond.code (mx_row q.2.2.1).1 (mx_row q.2.2.1).2.2.1 (mx_row q.2.2.1).2.2.2.1 none :: mx_gw := by rw [mx_ws, mx_rwr hy, hrt]
    refine mx_fin (ret := none) (bc := bc) (bs := bs) (va_runIN (host := "HedgeReader") (n := (mx_row q.2.2.1).2.2.2.2.2.1) (As := t.map (mx_cv base b adK)) (b := base + ka) (bytes := (mx_row q.2.2.1).2.2.1) (maxL := (mx_row q.2.2.1).2.2.2.1) ⟨hx, hb, hml, hown, hgw⟩ hM
      ⟨⟨⟨rfl, rfl, hR.2.2.1, by show 8 + (_ + 11) + 36 * d ≤ _; have := hR.2.2.2; omega, pay_in hgw (mx_wsg (by rw [mx_rwr hy, hrt]; exact w1)), by rw [hws]; exact List.mem_cons_self⟩, hts _ w1.1 w1.2, w5, w6, w7, va_Nw.use rfl hlk⟩, hni, w3 hsta⟩
      ⟨mx_blind, fun U hU hW => ⟨?_, hUU U hU hW⟩⟩ rfl (by rw [List.length_map]; exact hnn) hl.1 ?_ (lv_room hsum) (mx_Dok hd) ⟨by show cells + bc ≤ _; omega, by show slots + bs ≤ _; omega⟩) hS hfin
    · rw [List.map_cons, mx_cvr (Int.natCast_nonneg ka)]; rfl
    · show (List.map _ _).reverse ++ _ = _
      rw [List.map_cons, List.reverse_cons, mx_cvr (Int.natCast_nonneg ka), List.append_assoc]
      rfl
  case invokedynamic j0 =>
    have hd := List.any_eq_true.mp (show List.any _ _ = true from hd0)
    obtain ⟨q, hq, hd⟩ := hd
    replace hd := of_decide_eq_true hd
    obtain ⟨e1, rfl, rfl, hd⟩ := hd
    have hj0 : q.2.2.1 < 2 ∧ y = mx_sy q.2.2.1 ∧ k = 4 := by
      generalize q.2.2.1 = j0 at hcal
      match j0, hcal with
      | 0, h => cases h; exact ⟨by omega, rfl, rfl⟩
      | 1, h => cases h; exact ⟨by omega, rfl, rfl⟩
      | n + 2, h => cases h
    obtain ⟨hj2, rfl, rfl⟩ := hj0
    have hs := mx_str_ok hq hj2
    unfold mx_sck at hs
    simp only [Bool.and_eq_true, decide_eq_true_eq] at hs
    obtain ⟨⟨l1, l2⟩, w1, w3, w4, w5, w6⟩ := hs
    rw [e1] at l1 l2
    have l0 := mx_in (by rw [Bool.and_eq_true]; exact ⟨l1, l2⟩)
    have hrec : ∃ (jj : Nat) (t : List mx_V), jj < 8 ∧ as = .inr (.inr (-3 - (jj : Int))) :: t ∧ t.length = (mx_rw (mx_sy q.2.2.1)).2.2.2.2.2.1 ∧ (mx_rw (mx_sy q.2.2.1)).1.cls = "java/lang/String" := by
      rcases (show q.2.2.1 = 0 ∨ q.2.2.1 = 1 by omega) with r | r <;> rw [r] at hcall ⊢
      · cases d with
        | zero => cases hcall
        | succ d =>
          have hcall : if (300 : Nat) = 300 then _ else _ := hcall
          rw [if_pos rfl] at hcall
          obtain ⟨jj, g1, g2, -⟩ := hcall
          exact ⟨jj, [], g1, g2, rfl, rfl⟩
      · cases d with
        | zero => cases hcall
        | succ d =>
          have hcall : if (301 : Nat) = 300 then _ else if (301 : Nat) = 301 then _ else _ := hcall
          rw [if_neg (by decide), if_pos rfl] at hcall
          obtain ⟨-, jj, kk, g1, -, g2, -⟩ := hcall
          exact ⟨jj, [_], g1, g2, rfl, rfl⟩
    obtain ⟨jj, t, hjj, rfl, hnn, hcls⟩ := hrec
    have e3 : mx_cv base b adK (.inr (.inr (-3 - (jj : Int)))) = .ref (adK jj) := by
      show (if _ then _ else _ : Value) = _
      rw [if_neg (by omega), if_neg (by omega), if_neg (by omega)]
      congr 2
      omega
    have hcell : ∃ cellB : Cell, H[adK jj]? = some cellB ∧ cellB.vm.isStatics = false ∧ s.vm.findClass (mx_rw (mx_sy q.2.2.1)).1.cls = some cellB.cls := by
      rw [hcls]
      exact vk_recv hSt.1 hjj hS
    have hd : mx_D M pc = some (.invokevirtual q.2.1, 3) := by
      rw [if_neg (by omega), if_pos (by omega)] at hd
      exact hd
    refine mx_fin (bc := bc) (bs := bs) (va_runV (n := (mx_rw (mx_sy q.2.2.1)).2.2.2.2.2.1) (As := t.map (mx_cv base b adK)) (b := adK jj) (C := (mx_rw (mx_sy q.2.2.1)).1.cls) (bytes := (mx_rw (mx_sy q.2.2.1)).2.2.1) (maxL := (mx_rw (mx_sy q.2.2.1)).2.2.2.1) (ret := (mx_rw (mx_sy q.2.2.1)).2.2.2.2.1) ⟨hx, hb, hml, hown, hgw⟩ hM
      ⟨⟨rfl, rfl, hR.2.2.1, ?_, pay_in hgw (mx_wsg w1), List.mem_cons_self, hts _ w1.1 w1.2, hts _ w5.1 w5.2, ⟨w6.1, w6.2.1⟩, fun sig hsig => ?_, hts _ l0.1 l0.2⟩, hts _ w3.1 w3.2, hts _ w4.1 w4.2⟩
      ⟨mx_blind, hcell, fun U hU hW => ⟨?_, hUU U hU hW⟩⟩ rfl (by rw [List.length_map]; exact hnn) hl.1 ?_ (lv_room hsum) (mx_Dok hd) ⟨by show cells + bc ≤ _; omega, by show slots + bs ≤ _; omega⟩) hS hfin
    · show 8 + (_ + 11) + 36 * d ≤ _
      have h9 : (mx_rw (mx_sy q.2.2.1)).2.2.2.1 ≤ 2 := by rcases (show q.2.2.1 = 0 ∨ q.2.2.1 = 1 by omega) with r | r <;> rw [r] <;> decide
      have := hR.2.2.2
      omega
    · have h9 := w6.2.2
      rw [hsig] at h9
      exact (Option.some.inj h9).symm
    · rw [List.map_cons, e3]
    · show (List.map _ _).reverse ++ _ = _
      rw [List.map_cons, List.reverse_cons, e3, List.append_assoc]
      rfl
  all_goals cases hcal
end SNC
