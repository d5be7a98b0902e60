/-! THE MACHINE IS SOUND: what it may do, the JVM does -/
def mx_cv (base b : Nat) (adK : Nat → Nat) : mx_V → Value
  | .inl e => .int (Int32.ofInt e)
  | .inr (.inl e) => .long (Int64.ofInt e)
  | .inr (.inr a) => if 0 ≤ a then .ref (base + a.toNat) else if a = -1 then .null else if a = -2 then .ref b else .ref (adK (-3 - a).toNat)
theorem mx_cvcat (base b : Nat) (adK : Nat → Nat) (v : mx_V) : (mx_cv base b adK v).category = mx_cat v := by
  rcases v with e | e | a
  · rfl
  · rfl
  · show (if _ then _ else _ : Value).category = 1
    split
    · rfl
    · split
      · rfl
      · split <;> rfl
theorem mx_cvr {base b : Nat} {adK : Nat → Nat} {a : Int} (h : 0 ≤ a) : mx_cv base b adK (.inr (.inr a)) = .ref (base + a.toNat) := by
  show (if _ then _ else _ : Value) = _
  rw [if_pos h]
def mx_fv (base b : Nat) (adK : Nat → Nat) (m : mx_M) (kd k j : Nat) : Value := match (mx_ft.getD kd []).getD j 0 with
  | 1 => .long (Int64.ofInt (m.2.2.1 k j))
  | 2 => mx_cv base b adK (.inr (.inr (m.2.1 k j)))
  | _ => .int (Int32.ofInt (m.2.2.1 k j))
def mx_el (base b : Nat) (adK : Nat → Nat) (m : mx_M) (kd k j : Nat) : Value := if kd ≤ 101 then .int (Int32.ofInt (m.2.2.1 k j)) else mx_cv base b adK (.inr (.inr (m.2.1 k j)))
def mx_cel (D : va_G) (cA : Nat → ClassId) (base b : Nat) (adK : Nat → Nat) (m : mx_M) (H : Heap) (k kd n : Nat) : Prop :=
  (kd < 10 ∧ t_OB (base + k) (D.1 kd) (mx_nf kd) (D.2 kd) H (mx_fv base b adK m kd k)) ∨ (100 ≤ kd ∧ kd < 105 ∧ n ≤ 1000 ∧ H[base + k]? = some (arrV (cA kd) n (mx_el base b adK m kd k)))
/-- the heap holds the machine's memory -/
def mx_P (D : va_G) (cA : Nat → ClassId) (base b : Nat) (adK : Nat → Nat) (w0 : Int → Int) (m : mx_M) (H : Heap) : Prop :=
  H.size = base + m.1.length ∧ m.2.2.1 (-2) = w0 ∧ ∀ (k kd n : Nat), m.1[k]? = some (kd, n) → mx_cel D cA base b adK m H k kd n
def mx_ty (cA : Nat → ClassId) : List (ClassId × FieldType) := [(cA 100, .int), (cA 101, .boolean), (cA 102, .array .int), (cA 103, .object "HedgeReader$State"), (cA 104, .object "HedgeReader$Shelf")]
def mx_pr (base b : Nat) (adK : Nat → Nat) (ls : mx_L) : List (Nat × Value) := (List.range ls.length).filterMap (fun i => (ls.getD i none).map (fun v => (i, mx_cv base b adK v)))
theorem mx_pr_mem {base b : Nat} {adK : Nat → Nat} {ls : mx_L} {i : Nat} {x : Value} : (i, x) ∈ mx_pr base b adK ls ↔ ∃ v, ls.getD i none = some v ∧ x = mx_cv base b adK v := by
  unfold mx_pr
  rw [List.mem_filterMap]
  constructor
  · rintro ⟨j, hj, h⟩
    cases hv : ls.getD j none with
    | none => rw [hv] at h; cases h
    | some v => rw [hv] at h; cases h; exact ⟨v, hv, rfl⟩
  · rintro ⟨v, hv, rfl⟩
    refine ⟨i, List.mem_range.mpr ?_, by rw [hv]; rfl⟩
    rcases Nat.lt_or_ge i ls.length with h | h
    · exact h
    · rw [List.getD_eq_getElem?_getD, List.getElem?_eq_none h] at hv; cases hv
theorem mx_at {ls' : Array Slot} {n : Nat} {base b : Nat} {adK : Nat → Nat} {ls : mx_L} {i : Nat} {v : mx_V} (h : lv_has ls' n (mx_pr base b adK ls)) (hv : ls.getD i none = some v) : ls'[i]? = some (.val (mx_cv base b adK v)) := h.2.2 (i, _) (mx_pr_mem.mpr ⟨v, hv, rfl⟩)
theorem mx_sub {ls' : Array Slot} {n : Nat} {base b : Nat} {adK : Nat → Nat} {ls l2 : mx_L} (h : lv_has ls' n (mx_pr base b adK ls)) (hs : ∀ i v, l2.getD i none = some v → ls.getD i none = some v) : lv_has ls' n (mx_pr base b adK l2) :=
  ⟨h.1, h.2.1, fun q hq => by
    obtain ⟨v, h1, h2⟩ := mx_pr_mem.mp (show (q.1, q.2) ∈ _ from hq)
    rw [h2]
    exact mx_at h (hs _ _ h1)⟩
theorem mx_getD_set {ls : mx_L} {i j : Nat} {x : Option mx_V} : (ls.set i x).getD j none = if j = i ∧ i < ls.length then x else ls.getD j none := by
  rw [List.getD_eq_getElem?_getD, List.getElem?_set]
  by_cases h : i = j
  · subst h
    by_cases h2 : i < ls.length
    · simp [h2]
    · simp [h2]
  · simp [h, Ne.symm h]
theorem mx_set1 {ls' : Array Slot} {n i : Nat} {base b : Nat} {adK : Nat → Nat} {L : mx_L} {v : mx_V}
    (h : lv_has ls' n ((i, mx_cv base b adK v) :: (mx_pr base b adK L).filter (fun q => !(q.1 == i) && !(q.1 + 1 == i && q.2.category == 2)))) (hg : mx_lg L i = false) : lv_has ls' n (mx_pr base b adK (L.set i (some v))) := by
  refine ⟨h.1, h.2.1, fun q hq => ?_⟩
  obtain ⟨j, x⟩ := q
  obtain ⟨u, h1, rfl⟩ := mx_pr_mem.mp hq
  rw [mx_getD_set] at h1
  by_cases hj : j = i
  · subst hj
    by_cases h2 : j < L.length
    · rw [if_pos ⟨rfl, h2⟩] at h1
      cases h1
      exact h.2.2 _ List.mem_cons_self
    · rw [if_neg (fun q => h2 q.2), List.getD_eq_getElem?_getD, List.getElem?_eq_none (by omega)] at h1
      cases h1
  · rw [if_neg (fun q => hj q.1)] at h1
    refine h.2.2 (j, _) (List.mem_cons_of_mem _ (List.mem_filter.mpr ⟨mx_pr_mem.mpr ⟨u, h1, rfl⟩, ?_⟩))
    rw [mx_cvcat]
    by_cases h3 : j + 1 = i
    · subst h3
      have h4 : mx_cat u ≠ 2 := by
        intro h5
        rcases u with e | e | e
        · cases h5
        · have hg2 : (match L.getD j none with | some (.inr (.inl _)) => true | _ => false : Bool) = false := hg
          rw [h1] at hg2
          cases hg2
        · cases h5
      simp [h4]
    · simp [hj, h3]
theorem mx_set2 {ls' : Array Slot} {n i : Nat} {base b : Nat} {adK : Nat → Nat} {L : mx_L} {v : mx_V}
    (h : lv_has ls' n ((i, mx_cv base b adK v) :: (mx_pr base b adK L).filter (fun q => !(q.1 == i) && (!(q.1 == i + 1) && !(q.1 + 1 == i && q.2.category == 2))))) (hg : mx_lg L i = false) (hi : i + 1 < L.length) : lv_has ls' n (mx_pr base b adK ((L.set i (some v)).set (i + 1) none)) := by
  refine ⟨h.1, h.2.1, fun q hq => ?_⟩
  obtain ⟨j, x⟩ := q
  obtain ⟨u, h1, rfl⟩ := mx_pr_mem.mp hq
  rw [mx_getD_set, mx_getD_set] at h1
  by_cases hj1 : j = i + 1
  · rw [if_pos ⟨hj1, by rw [List.length_set]; exact hi⟩] at h1; cases h1
  · rw [if_neg (fun q => hj1 q.1)] at h1
    by_cases hj : j = i
    · subst hj
      rw [if_pos ⟨rfl, by omega⟩] at h1
      cases h1
      exact h.2.2 _ List.mem_cons_self
    · rw [if_neg (fun q => hj q.1)] at h1
      refine h.2.2 (j, _) (List.mem_cons_of_mem _ (List.mem_filter.mpr ⟨mx_pr_mem.mpr ⟨u, h1, rfl⟩, ?_⟩))
      rw [mx_cvcat]
      by_cases h3 : j + 1 = i
      · subst h3
        have h4 : mx_cat u ≠ 2 := by
          intro h5
          rcases u with e | e | e
          · cases h5
          · have hg2 : (match L.getD j none with | some (.inr (.inl _)) => true | _ => false : Bool) = false := hg
            rw [h1] at hg2
            cases hg2
          · cases h5
        simp [h4]
        try omega
      · simp [hj, hj1, h3]
theorem mx_nI (k : Nat) : Int32.ofInt (k : Int) = nI k := Int32.ofInt_eq_ofNat
theorem mx_lN (k : Nat) : Int64.ofInt (k : Int) = lN k := Int64.ofInt_eq_ofNat
theorem mx_t32 {a : Int} (h : -2147483648 ≤ a ∧ a < 2147483648) : (Int32.ofInt a).toInt = a := Int32.toInt_ofInt_of_le (by omega) (by omega)
theorem mx_t64 {a : Int} (h : -9223372036854775808 ≤ a ∧ a < 9223372036854775808) : (Int64.ofInt a).toInt = a := Int64.toInt_ofInt_of_le (by omega) (by omega)
theorem mx_t0 : ((0 : Int32)).toInt = 0 := by decide
theorem mx_eq32 {a b : Int} (h : (-2147483648 ≤ a ∧ a < 2147483648) ∧ -2147483648 ≤ b ∧ b < 2147483648) : Int32.ofInt a = Int32.ofInt b ↔ a = b := by
  rw [← Int32.toInt_inj, mx_t32 h.1, mx_t32 h.2]
theorem mx_lt32 {a b : Int} (h : (-2147483648 ≤ a ∧ a < 2147483648) ∧ -2147483648 ≤ b ∧ b < 2147483648) : Int32.ofInt a < Int32.ofInt b ↔ a < b := by
  rw [Int32.lt_iff_toInt_lt, mx_t32 h.1, mx_t32 h.2]
theorem mx_le32 {a b : Int} (h : (-2147483648 ≤ a ∧ a < 2147483648) ∧ -2147483648 ≤ b ∧ b < 2147483648) : Int32.ofInt a ≤ Int32.ofInt b ↔ a ≤ b := by
  rw [Int32.le_iff_toInt_le, mx_t32 h.1, mx_t32 h.2]
theorem mx_cl32 {a : Int} {n : Nat} (h : 0 ≤ a ∧ a < (n : Int)) (hn : n < 2 ^ 31) : Int32.ofInt a = nI a.toNat ∧ (Int32.ofInt a).toNatClampNeg = a.toNat ∧ vp_in (Int32.ofInt a) n := by
  obtain ⟨k, rfl⟩ := Int.eq_ofNat_of_zero_le h.1
  have hk : k < n := by omega
  refine ⟨mx_nI k, ?_, ?_⟩
  · rw [mx_nI, nI_clamp (by omega)]; rfl
  · rw [mx_nI]; exact vp_in_nI hk hn
/-- what holds at the start of a walk of method M -/
def mx_AO (ty : FieldType) (U : State) : Prop := (Cond.arrayOver ty).before #[] U = true
def mx_E (base : Nat) (adK adV : Nat → Nat) (U : State) : Prop := (∀ q ∈ mx_nl, va_Nw (.methodLinkNest (mx_on.getD q.1 "") q.2.1 (mx_row q.2.2.1).1 "HedgeReader") U) ∧ (va_AO "HedgeReader$State" U ∧ va_AO "HedgeReader$Shelf" U ∧ mx_AO (.array .int) U) ∧ (∀ q ∈ mx_sr, vk_R (mx_on.getD q.1 "") q.2.1 (mx_st.getD q.2.2.1 "") (adK q.2.2.1) U)
def mx_X (M : Nat) (p : Program) (s : State) (m : MethodId) (args : Array Value) (meth : Method) (c : Code) (D : va_G) (cA : Nat → ClassId) (base b : Nat) (adK adV : Nat → Nat) (w0 : Int → Int) : Prop :=
  p.tables.exec = Jvm.exec ∧ c.code = (mx_row M).2.2.1 ∧ c.maxLocals = (mx_row M).2.2.2.1 ∧ s.vm.findClass (mx_on.getD (mx_ow M) "") = some m.cls ∧ (∀ w ∈ lw_tbl, goodWord w = true → w.before args s = true) ∧ va_K D mx_cl (mx_ty cA) s ∧ base ≤ s.heap.size ∧ mx_E base adK adV s ∧ meth.name = (mx_row M).1.name ∧
  (M = 0 → ∃ (L : Nat) (xs : Nat → Int32), va_X b L xs s s.heap ∧ b < base ∧ L < 2 ^ 31 ∧ w0 (-1) = (L : Int) ∧ ∀ i : Nat, i < L → Int32.ofInt (w0 (i : Int)) = xs i)
section SND
variable {p : Program} {l : Launch} {e : Env} {R : Room} {s : State} {m : MethodId} {args : Array Value} {below : List Frame} {meth : Method} {c : Code} {Qf : State → Prop} {D : va_G} {cA : Nat → ClassId} {base b : Nat} {adK adV : Nat → Nat} {w0 : Int → Int} {M mcT msT : Nat}
def mx_J (p : Program) (l : Launch) (e : Env) (R : Room) (s : State) (m : MethodId) (args : Array Value) (below : List Frame) (meth : Method) (c : Code) (Qf : State → Prop) (D : va_G) (cA : Nat → ClassId) (base b : Nat) (adK : Nat → Nat) (w0 : Int → Int) (M mcT msT : Nat) (x : mx_C) : Prop :=
  ∀ (H : Heap) (locs : List Loc) (ls : Array Slot) (cells slots : Nat), cells + x.2.2.2.2.2.2.1 = mcT → slots + x.2.2.2.2.2.2.2 = msT → x.2.1.length = (mx_row M).2.2.2.1 → lv_has ls (mx_row M).2.2.2.1 (mx_pr base b adK x.2.1) → mx_P D cA base b adK w0 x.2.2.2 H → va_S (fun q => base ≤ q) s.heap H locs →
    W p l e R s m args below meth c H locs cells slots Qf (F0 m x.1 ls (x.2.2.1.map (mx_cv base b adK)))

/-! rows of the link tables are words -/
theorem mx_in {w : Cond} {i : Nat} (h : (lw_tbl[i]? == some w && goodWord w) = true) : w ∈ lw_tbl ∧ goodWord w = true := by
  obtain ⟨h1, h2⟩ := Bool.and_eq_true_iff.mp h
  exact ⟨List.mem_of_getElem? (beq_iff_eq.mp h1), h2⟩
set_option maxRecDepth 100000 in
theorem mx_cs_ck : (mx_cs.all fun q => lw_tbl[q.2.2.2]? == some (.constant (mx_on.getD q.1 "") q.2.1 (Int32.ofInt q.2.2.1)) && goodWord (.constant (mx_on.getD q.1 "") q.2.1 (Int32.ofInt q.2.2.1))) = true := by decide +kernel
theorem mx_cs_ok (q : Nat × Nat × Int × Nat) (h : q ∈ mx_cs) : Cond.constant (mx_on.getD q.1 "") q.2.1 (Int32.ofInt q.2.2.1) ∈ lw_tbl ∧ goodWord (Cond.constant (mx_on.getD q.1 "") q.2.1 (Int32.ofInt q.2.2.1)) = true := mx_in (List.all_eq_true.mp mx_cs_ck q h)
set_option maxRecDepth 100000 in
theorem mx_cl2_ck : (mx_cl2.all fun q => lw_tbl[q.2.2.2]? == some (.constantLong (mx_on.getD q.1 "") q.2.1 (Int64.ofInt q.2.2.1)) && goodWord (.constantLong (mx_on.getD q.1 "") q.2.1 (Int64.ofInt q.2.2.1))) = true := by decide +kernel
theorem mx_cl2_ok (q : Nat × Nat × Int × Nat) (h : q ∈ mx_cl2) : Cond.constantLong (mx_on.getD q.1 "") q.2.1 (Int64.ofInt q.2.2.1) ∈ lw_tbl ∧ goodWord (Cond.constantLong (mx_on.getD q.1 "") q.2.1 (Int64.ofInt q.2.2.1)) = true := mx_in (List.all_eq_true.mp mx_cl2_ck q h)
set_option maxRecDepth 100000 in
theorem mx_fl_ck : (mx_fl.all fun q => lw_tbl[q.2.2.2]? == some (.fieldLink (mx_on.getD q.1 "") q.2.1 (mx_fld (q.2.2.1 / 256) (q.2.2.1 % 256 / 4)).1 (mx_fld (q.2.2.1 / 256) (q.2.2.1 % 256 / 4)).2.1 (mx_fld (q.2.2.1 / 256) (q.2.2.1 % 256 / 4)).2.2.1) && goodWord (.fieldLink (mx_on.getD q.1 "") q.2.1 (mx_fld (q.2.2.1 / 256) (q.2.2.1 % 256 / 4)).1 (mx_fld (q.2.2.1 / 256) (q.2.2.1 % 256 / 4)).2.1 (mx_fld (q.2.2.1 / 256) (q.2.2.1 % 256 / 4)).2.2.1)) = true := by decide +kernel
theorem mx_fl_ok (q : Nat × Nat × Nat × Nat) (h : q ∈ mx_fl) : Cond.fieldLink (mx_on.getD q.1 "") q.2.1 (mx_fld (q.2.2.1 / 256) (q.2.2.1 % 256 / 4)).1 (mx_fld (q.2.2.1 / 256) (q.2.2.1 % 256 / 4)).2.1 (mx_fld (q.2.2.1 / 256) (q.2.2.1 % 256 / 4)).2.2.1 ∈ lw_tbl ∧ goodWord (Cond.fieldLink (mx_on.getD q.1 "") q.2.1 (mx_fld (q.2.2.1 / 256) (q.2.2.1 % 256 / 4)).1 (mx_fld (q.2.2.1 / 256) (q.2.2.1 % 256 / 4)).2.1 (mx_fld (q.2.2.1 / 256) (q.2.2.1 % 256 / 4)).2.2.1) = true := mx_in (List.all_eq_true.mp mx_fl_ck q h)

theorem mx_refv (base b : Nat) (adK : Nat → Nat) (a : Int) : (∃ q, mx_cv base b adK (.inr (.inr a)) = .ref q) ∨ mx_cv base b adK (.inr (.inr a)) = .null := by
  simp only [mx_cv]
  split
  · exact Or.inl ⟨_, rfl⟩
  · split
    · exact Or.inr rfl
    · split <;> exact Or.inl ⟨_, rfl⟩

theorem mx_s_iadd {n h : Nat} {z : Int} {x : mx_C}  (hX : mx_X M p s m args meth c D cA base b adK adV w0) (hd0 : mx_dk M x.1 (.iadd) n z = true) (hp : (mx_nx (.iadd) n z h x).1.getD True) (hJ : mx_J p l e R s m args below meth c Qf D cA base b adK w0 M mcT msT (mx_nx (.iadd) n z h x).2) : mx_J p l e R s m args below meth c Qf D cA base b adK w0 M mcT msT x := by
  obtain ⟨pc, ls, st, mm⟩ := x
  obtain ⟨hx, hb, hml, hown, hts, hK, hbase, hE, hnm, hsc⟩ := hX
  intro H locs lsA cells slots h1 h2 h3 hl hP hS
  have hd := of_decide_eq_true (show decide _ = true from hd0)
  obtain ⟨rfl, hd⟩ := hd
  have hd := mx_Dok hd
  rcases st with _ | ⟨v1, st⟩
  · exact False.elim hp
  rcases v1 with b1 | b1 | b1
  · rcases st with _ | ⟨v2, st⟩
    · exact False.elim hp
    rcases v2 with a1 | a1 | a1
    · refine lv_iadd hx hb hd ?_
      rw [← Int32.ofInt_add]
      exact hJ H locs lsA cells slots h1 h2 h3 hl hP hS
    · exact False.elim hp
    · exact False.elim hp
  · exact False.elim hp
  · exact False.elim hp

theorem mx_s_isub {n h : Nat} {z : Int} {x : mx_C}  (hX : mx_X M p s m args meth c D cA base b adK adV w0) (hd0 : mx_dk M x.1 (.isub) n z = true) (hp : (mx_nx (.isub) n z h x).1.getD True) (hJ : mx_J p l e R s m args below meth c Qf D cA base b adK w0 M mcT msT (mx_nx (.isub) n z h x).2) : mx_J p l e R s m args below meth c Qf D cA base b adK w0 M mcT msT x := by
  obtain ⟨pc, ls, st, mm⟩ := x
  obtain ⟨hx, hb, hml, hown, hts, hK, hbase, hE, hnm, hsc⟩ := hX
  intro H locs lsA cells slots h1 h2 h3 hl hP hS
  have hd := of_decide_eq_true (show decide _ = true from hd0)
  obtain ⟨rfl, hd⟩ := hd
  have hd := mx_Dok hd
  rcases st with _ | ⟨v1, st⟩
  · exact False.elim hp
  rcases v1 with b1 | b1 | b1
  · rcases st with _ | ⟨v2, st⟩
    · exact False.elim hp
    rcases v2 with a1 | a1 | a1
    · refine lv_isub hx hb hd ?_
      rw [← Int32.ofInt_sub]
      exact hJ H locs lsA cells slots h1 h2 h3 hl hP hS
    · exact False.elim hp
    · exact False.elim hp
  · exact False.elim hp
  · exact False.elim hp

theorem mx_s_imul {n h : Nat} {z : Int} {x : mx_C}  (hX : mx_X M p s m args meth c D cA base b adK adV w0) (hd0 : mx_dk M x.1 (.imul) n z = true) (hp : (mx_nx (.imul) n z h x).1.getD True) (hJ : mx_J p l e R s m args below meth c Qf D cA base b adK w0 M mcT msT (mx_nx (.imul) n z h x).2) : mx_J p l e R s m args below meth c Qf D cA base b adK w0 M mcT msT x := by
  obtain ⟨pc, ls, st, mm⟩ := x
  obtain ⟨hx, hb, hml, hown, hts, hK, hbase, hE, hnm, hsc⟩ := hX
  intro H locs lsA cells slots h1 h2 h3 hl hP hS
  have hd := of_decide_eq_true (show decide _ = true from hd0)
  obtain ⟨rfl, hd⟩ := hd
  have hd := mx_Dok hd
  rcases st with _ | ⟨v1, st⟩
  · exact False.elim hp
  rcases v1 with b1 | b1 | b1
  · rcases st with _ | ⟨v2, st⟩
    · exact False.elim hp
    rcases v2 with a1 | a1 | a1
    · refine lv_imul hx hb hd ?_
      rw [← Int32.ofInt_mul]
      exact hJ H locs lsA cells slots h1 h2 h3 hl hP hS
    · exact False.elim hp
    · exact False.elim hp
  · exact False.elim hp
  · exact False.elim hp

theorem mx_s_iand {n h : Nat} {z : Int} {x : mx_C}  (hX : mx_X M p s m args meth c D cA base b adK adV w0) (hd0 : mx_dk M x.1 (.iand) n z = true) (hp : (mx_nx (.iand) n z h x).1.getD True) (hJ : mx_J p l e R s m args below meth c Qf D cA base b adK w0 M mcT msT (mx_nx (.iand) n z h x).2) : mx_J p l e R s m args below meth c Qf D cA base b adK w0 M mcT msT x := by
  obtain ⟨pc, ls, st, mm⟩ := x
  obtain ⟨hx, hb, hml, hown, hts, hK, hbase, hE, hnm, hsc⟩ := hX
  intro H locs lsA cells slots h1 h2 h3 hl hP hS
  have hd := of_decide_eq_true (show decide _ = true from hd0)
  obtain ⟨rfl, hd⟩ := hd
  have hd := mx_Dok hd
  rcases st with _ | ⟨v1, st⟩
  · exact False.elim hp
  rcases v1 with b1 | b1 | b1
  · rcases st with _ | ⟨v2, st⟩
    · exact False.elim hp
    rcases v2 with a1 | a1 | a1
    · refine lv_iand hx hb hd ?_
      rw [show _ = Int32.ofInt (mx_and a1 b1) from (Int32.ofInt_toInt _).symm]
      exact hJ H locs lsA cells slots h1 h2 h3 hl hP hS
    · exact False.elim hp
    · exact False.elim hp
  · exact False.elim hp
  · exact False.elim hp

theorem mx_s_ior {n h : Nat} {z : Int} {x : mx_C}  (hX : mx_X M p s m args meth c D cA base b adK adV w0) (hd0 : mx_dk M x.1 (.ior) n z = true) (hp : (mx_nx (.ior) n z h x).1.getD True) (hJ : mx_J p l e R s m args below meth c Qf D cA base b adK w0 M mcT msT (mx_nx (.ior) n z h x).2) : mx_J p l e R s m args below meth c Qf D cA base b adK w0 M mcT msT x := by
  obtain ⟨pc, ls, st, mm⟩ := x
  obtain ⟨hx, hb, hml, hown, hts, hK, hbase, hE, hnm, hsc⟩ := hX
  intro H locs lsA cells slots h1 h2 h3 hl hP hS
  have hd := of_decide_eq_true (show decide _ = true from hd0)
  obtain ⟨rfl, hd⟩ := hd
  have hd := mx_Dok hd
  rcases st with _ | ⟨v1, st⟩
  · exact False.elim hp
  rcases v1 with b1 | b1 | b1
  · rcases st with _ | ⟨v2, st⟩
    · exact False.elim hp
    rcases v2 with a1 | a1 | a1
    · refine lv_ior hx hb hd ?_
      rw [show _ = Int32.ofInt (mx_or a1 b1) from (Int32.ofInt_toInt _).symm]
      exact hJ H locs lsA cells slots h1 h2 h3 hl hP hS
    · exact False.elim hp
    · exact False.elim hp
  · exact False.elim hp
  · exact False.elim hp

theorem mx_s_ixor {n h : Nat} {z : Int} {x : mx_C}  (hX : mx_X M p s m args meth c D cA base b adK adV w0) (hd0 : mx_dk M x.1 (.ixor) n z = true) (hp : (mx_nx (.ixor) n z h x).1.getD True) (hJ : mx_J p l e R s m args below meth c Qf D cA base b adK w0 M mcT msT (mx_nx (.ixor) n z h x).2) : mx_J p l e R s m args below meth c Qf D cA base b adK w0 M mcT msT x := by
  obtain ⟨pc, ls, st, mm⟩ := x
  obtain ⟨hx, hb, hml, hown, hts, hK, hbase, hE, hnm, hsc⟩ := hX
  intro H locs lsA cells slots h1 h2 h3 hl hP hS
  have hd := of_decide_eq_true (show decide _ = true from hd0)
  obtain ⟨rfl, hd⟩ := hd
  have hd := mx_Dok hd
  rcases st with _ | ⟨v1, st⟩
  · exact False.elim hp
  rcases v1 with b1 | b1 | b1
  · rcases st with _ | ⟨v2, st⟩
    · exact False.elim hp
    rcases v2 with a1 | a1 | a1
    · refine lv_ixor hx hb hd ?_
      rw [show _ = Int32.ofInt (mx_xor a1 b1) from (Int32.ofInt_toInt _).symm]
      exact hJ H locs lsA cells slots h1 h2 h3 hl hP hS
    · exact False.elim hp
    · exact False.elim hp
  · exact False.elim hp
  · exact False.elim hp

theorem mx_s_ishl {n h : Nat} {z : Int} {x : mx_C}  (hX : mx_X M p s m args meth c D cA base b adK adV w0) (hd0 : mx_dk M x.1 (.ishl) n z = true) (hp : (mx_nx (.ishl) n z h x).1.getD True) (hJ : mx_J p l e R s m args below meth c Qf D cA base b adK w0 M mcT msT (mx_nx (.ishl) n z h x).2) : mx_J p l e R s m args below meth c Qf D cA base b adK w0 M mcT msT x := by
  obtain ⟨pc, ls, st, mm⟩ := x
  obtain ⟨hx, hb, hml, hown, hts, hK, hbase, hE, hnm, hsc⟩ := hX
  intro H locs lsA cells slots h1 h2 h3 hl hP hS
  have hd := of_decide_eq_true (show decide _ = true from hd0)
  obtain ⟨rfl, hd⟩ := hd
  have hd := mx_Dok hd
  rcases st with _ | ⟨v1, st⟩
  · exact False.elim hp
  rcases v1 with b1 | b1 | b1
  · rcases st with _ | ⟨v2, st⟩
    · exact False.elim hp
    rcases v2 with a1 | a1 | a1
    · refine lv_ishl hx hb hd ?_
      rw [show _ = Int32.ofInt (mx_shl a1 b1) from (Int32.ofInt_toInt _).symm]
      exact hJ H locs lsA cells slots h1 h2 h3 hl hP hS
    · exact False.elim hp
    · exact False.elim hp
  · exact False.elim hp
  · exact False.elim hp

theorem mx_s_ishr {n h : Nat} {z : Int} {x : mx_C}  (hX : mx_X M p s m args meth c D cA base b adK adV w0) (hd0 : mx_dk M x.1 (.ishr) n z = true) (hp : (mx_nx (.ishr) n z h x).1.getD True) (hJ : mx_J p l e R s m args below meth c Qf D cA base b adK w0 M mcT msT (mx_nx (.ishr) n z h x).2) : mx_J p l e R s m args below meth c Qf D cA base b adK w0 M mcT msT x := by
  obtain ⟨pc, ls, st, mm⟩ := x
  obtain ⟨hx, hb, hml, hown, hts, hK, hbase, hE, hnm, hsc⟩ := hX
  intro H locs lsA cells slots h1 h2 h3 hl hP hS
  have hd := of_decide_eq_true (show decide _ = true from hd0)
  obtain ⟨rfl, hd⟩ := hd
  have hd := mx_Dok hd
  rcases st with _ | ⟨v1, st⟩
  · exact False.elim hp
  rcases v1 with b1 | b1 | b1
  · rcases st with _ | ⟨v2, st⟩
    · exact False.elim hp
    rcases v2 with a1 | a1 | a1
    · refine lv_ishr hx hb hd ?_
      rw [show _ = Int32.ofInt (mx_shr a1 b1) from (Int32.ofInt_toInt _).symm]
      exact hJ H locs lsA cells slots h1 h2 h3 hl hP hS
    · exact False.elim hp
    · exact False.elim hp
  · exact False.elim hp
  · exact False.elim hp

theorem mx_s_iushr {n h : Nat} {z : Int} {x : mx_C}  (hX : mx_X M p s m args meth c D cA base b adK adV w0) (hd0 : mx_dk M x.1 (.iushr) n z = true) (hp : (mx_nx (.iushr) n z h x).1.getD True) (hJ : mx_J p l e R s m args below meth c Qf D cA base b adK w0 M mcT msT (mx_nx (.iushr) n z h x).2) : mx_J p l e R s m args below meth c Qf D cA base b adK w0 M mcT msT x := by
  obtain ⟨pc, ls, st, mm⟩ := x
  obtain ⟨hx, hb, hml, hown, hts, hK, hbase, hE, hnm, hsc⟩ := hX
  intro H locs lsA cells slots h1 h2 h3 hl hP hS
  have hd := of_decide_eq_true (show decide _ = true from hd0)
  obtain ⟨rfl, hd⟩ := hd
  have hd := mx_Dok hd
  rcases st with _ | ⟨v1, st⟩
  · exact False.elim hp
  rcases v1 with b1 | b1 | b1
  · rcases st with _ | ⟨v2, st⟩
    · exact False.elim hp
    rcases v2 with a1 | a1 | a1
    · refine lv_iushr hx hb hd (show _ = Int32.ofInt (mx_ushr a1 b1) from (Int32.ofInt_toInt _).symm) ?_
      exact hJ H locs lsA cells slots h1 h2 h3 hl hP hS
    · exact False.elim hp
    · exact False.elim hp
  · exact False.elim hp
  · exact False.elim hp

theorem mx_s_idiv {n h : Nat} {z : Int} {x : mx_C}  (hX : mx_X M p s m args meth c D cA base b adK adV w0) (hd0 : mx_dk M x.1 (.idiv) n z = true) (hp : (mx_nx (.idiv) n z h x).1.getD True) (hJ : mx_J p l e R s m args below meth c Qf D cA base b adK w0 M mcT msT (mx_nx (.idiv) n z h x).2) : mx_J p l e R s m args below meth c Qf D cA base b adK w0 M mcT msT x := by
  obtain ⟨pc, ls, st, mm⟩ := x
  obtain ⟨hx, hb, hml, hown, hts, hK, hbase, hE, hnm, hsc⟩ := hX
  intro H locs lsA cells slots h1 h2 h3 hl hP hS
  have hd := of_decide_eq_true (show decide _ = true from hd0)
  obtain ⟨rfl, hd⟩ := hd
  have hd := mx_Dok hd
  rcases st with _ | ⟨v1, st⟩
  · exact False.elim hp
  rcases v1 with b1 | b1 | b1
  · rcases st with _ | ⟨v2, st⟩
    · exact False.elim hp
    rcases v2 with a1 | a1 | a1
    · obtain ⟨⟨q1, q2⟩, q3, q4⟩ := hp
      obtain ⟨ka, rfl⟩ := Int.eq_ofNat_of_zero_le q1
      obtain ⟨kb, rfl⟩ := Int.eq_ofNat_of_zero_le (show (0 : Int) ≤ b1 by omega)
      refine lv_idiv hx hb hd (fun hz => ?_) ?_
      · have h9 := (mx_eq32 (a := (kb : Int)) (b := 0) ⟨⟨by omega, by omega⟩, by omega, by omega⟩).mp hz
        omega
      · rw [mx_nI, mx_nI, pk_div (by omega) (by omega) (by omega), ← mx_nI]
        exact hJ H locs lsA cells slots h1 h2 h3 hl hP hS
    · exact False.elim hp
    · exact False.elim hp
  · exact False.elim hp
  · exact False.elim hp

theorem mx_s_irem {n h : Nat} {z : Int} {x : mx_C}  (hX : mx_X M p s m args meth c D cA base b adK adV w0) (hd0 : mx_dk M x.1 (.irem) n z = true) (hp : (mx_nx (.irem) n z h x).1.getD True) (hJ : mx_J p l e R s m args below meth c Qf D cA base b adK w0 M mcT msT (mx_nx (.irem) n z h x).2) : mx_J p l e R s m args below meth c Qf D cA base b adK w0 M mcT msT x := by
  obtain ⟨pc, ls, st, mm⟩ := x
  obtain ⟨hx, hb, hml, hown, hts, hK, hbase, hE, hnm, hsc⟩ := hX
  intro H locs lsA cells slots h1 h2 h3 hl hP hS
  have hd := of_decide_eq_true (show decide _ = true from hd0)
  obtain ⟨rfl, hd⟩ := hd
  have hd := mx_Dok hd
  rcases st with _ | ⟨v1, st⟩
  · exact False.elim hp
  rcases v1 with b1 | b1 | b1
  · rcases st with _ | ⟨v2, st⟩
    · exact False.elim hp
    rcases v2 with a1 | a1 | a1
    · obtain ⟨⟨q1, q2⟩, q3, q4⟩ := hp
      obtain ⟨ka, rfl⟩ := Int.eq_ofNat_of_zero_le q1
      obtain ⟨kb, rfl⟩ := Int.eq_ofNat_of_zero_le (show (0 : Int) ≤ b1 by omega)
      refine lv_irem hx hb hd (fun hz => ?_) ?_
      · have h9 := (mx_eq32 (a := (kb : Int)) (b := 0) ⟨⟨by omega, by omega⟩, by omega, by omega⟩).mp hz
        omega
      · rw [mx_nI, mx_nI, pk_rem (by omega) (by omega) (by omega), ← mx_nI]
        exact hJ H locs lsA cells slots h1 h2 h3 hl hP hS
    · exact False.elim hp
    · exact False.elim hp
  · exact False.elim hp
  · exact False.elim hp

theorem mx_s_ladd {n h : Nat} {z : Int} {x : mx_C}  (hX : mx_X M p s m args meth c D cA base b adK adV w0) (hd0 : mx_dk M x.1 (.ladd) n z = true) (hp : (mx_nx (.ladd) n z h x).1.getD True) (hJ : mx_J p l e R s m args below meth c Qf D cA base b adK w0 M mcT msT (mx_nx (.ladd) n z h x).2) : mx_J p l e R s m args below meth c Qf D cA base b adK w0 M mcT msT x := by
  obtain ⟨pc, ls, st, mm⟩ := x
  obtain ⟨hx, hb, hml, hown, hts, hK, hbase, hE, hnm, hsc⟩ := hX
  intro H locs lsA cells slots h1 h2 h3 hl hP hS
  have hd := of_decide_eq_true (show decide _ = true from hd0)
  obtain ⟨rfl, hd⟩ := hd
  have hd := mx_Dok hd
  rcases st with _ | ⟨v1, st⟩
  · exact False.elim hp
  rcases v1 with b1 | b1 | b1
  · exact False.elim hp
  · rcases st with _ | ⟨v2, st⟩
    · exact False.elim hp
    rcases v2 with a1 | a1 | a1
    · exact False.elim hp
    · refine lv_ladd hx hb hd ?_
      rw [← Int64.ofInt_add]
      exact hJ H locs lsA cells slots h1 h2 h3 hl hP hS
    · exact False.elim hp
  · exact False.elim hp

theorem mx_s_lsub {n h : Nat} {z : Int} {x : mx_C}  (hX : mx_X M p s m args meth c D cA base b adK adV w0) (hd0 : mx_dk M x.1 (.lsub) n z = true) (hp : (mx_nx (.lsub) n z h x).1.getD True) (hJ : mx_J p l e R s m args below meth c Qf D cA base b adK w0 M mcT msT (mx_nx (.lsub) n z h x).2) : mx_J p l e R s m args below meth c Qf D cA base b adK w0 M mcT msT x := by
  obtain ⟨pc, ls, st, mm⟩ := x
  obtain ⟨hx, hb, hml, hown, hts, hK, hbase, hE, hnm, hsc⟩ := hX
  intro H locs lsA cells slots h1 h2 h3 hl hP hS
  have hd := of_decide_eq_true (show decide _ = true from hd0)
  obtain ⟨rfl, hd⟩ := hd
  have hd := mx_Dok hd
  rcases st with _ | ⟨v1, st⟩
  · exact False.elim hp
  rcases v1 with b1 | b1 | b1
  · exact False.elim hp
  · rcases st with _ | ⟨v2, st⟩
    · exact False.elim hp
    rcases v2 with a1 | a1 | a1
    · exact False.elim hp
    · refine lv_lsub hx hb hd ?_
      rw [← Int64.ofInt_sub]
      exact hJ H locs lsA cells slots h1 h2 h3 hl hP hS
    · exact False.elim hp
  · exact False.elim hp

theorem mx_s_lmul {n h : Nat} {z : Int} {x : mx_C}  (hX : mx_X M p s m args meth c D cA base b adK adV w0) (hd0 : mx_dk M x.1 (.lmul) n z = true) (hp : (mx_nx (.lmul) n z h x).1.getD True) (hJ : mx_J p l e R s m args below meth c Qf D cA base b adK w0 M mcT msT (mx_nx (.lmul) n z h x).2) : mx_J p l e R s m args below meth c Qf D cA base b adK w0 M mcT msT x := by
  obtain ⟨pc, ls, st, mm⟩ := x
  obtain ⟨hx, hb, hml, hown, hts, hK, hbase, hE, hnm, hsc⟩ := hX
  intro H locs lsA cells slots h1 h2 h3 hl hP hS
  have hd := of_decide_eq_true (show decide _ = true from hd0)
  obtain ⟨rfl, hd⟩ := hd
  have hd := mx_Dok hd
  rcases st with _ | ⟨v1, st⟩
  · exact False.elim hp
  rcases v1 with b1 | b1 | b1
  · exact False.elim hp
  · rcases st with _ | ⟨v2, st⟩
    · exact False.elim hp
    rcases v2 with a1 | a1 | a1
    · exact False.elim hp
    · refine lv_lmul hx hb hd ?_
      rw [← Int64.ofInt_mul]
      exact hJ H locs lsA cells slots h1 h2 h3 hl hP hS
    · exact False.elim hp
  · exact False.elim hp

theorem mx_s_ldiv {n h : Nat} {z : Int} {x : mx_C}  (hX : mx_X M p s m args meth c D cA base b adK adV w0) (hd0 : mx_dk M x.1 (.ldiv) n z = true) (hp : (mx_nx (.ldiv) n z h x).1.getD True) (hJ : mx_J p l e R s m args below meth c Qf D cA base b adK w0 M mcT msT (mx_nx (.ldiv) n z h x).2) : mx_J p l e R s m args below meth c Qf D cA base b adK w0 M mcT msT x := by
  obtain ⟨pc, ls, st, mm⟩ := x
  obtain ⟨hx, hb, hml, hown, hts, hK, hbase, hE, hnm, hsc⟩ := hX
  intro H locs lsA cells slots h1 h2 h3 hl hP hS
  have hd := of_decide_eq_true (show decide _ = true from hd0)
  obtain ⟨rfl, hd⟩ := hd
  have hd := mx_Dok hd
  rcases st with _ | ⟨v1, st⟩
  · exact False.elim hp
  rcases v1 with b1 | b1 | b1
  · exact False.elim hp
  · rcases st with _ | ⟨v2, st⟩
    · exact False.elim hp
    rcases v2 with a1 | a1 | a1
    · exact False.elim hp
    · obtain ⟨⟨q1, q2⟩, q3, q4⟩ := hp
      obtain ⟨ka, rfl⟩ := Int.eq_ofNat_of_zero_le q1
      obtain ⟨kb, rfl⟩ := Int.eq_ofNat_of_zero_le (show (0 : Int) ≤ b1 by omega)
      refine lv_ldiv hx hb hd (fun hz => ?_) ?_
      · have h9 := congrArg Int64.toInt hz
        rw [mx_t64 ⟨by omega, by omega⟩] at h9
        have h8 : ((0 : Int64)).toInt = 0 := by decide
        omega
      · rw [mx_lN, mx_lN, pk_lDiv (by omega) (by omega) (by omega), ← mx_lN]
        exact hJ H locs lsA cells slots h1 h2 h3 hl hP hS
    · exact False.elim hp
  · exact False.elim hp

theorem mx_s_lrem {n h : Nat} {z : Int} {x : mx_C}  (hX : mx_X M p s m args meth c D cA base b adK adV w0) (hd0 : mx_dk M x.1 (.lrem) n z = true) (hp : (mx_nx (.lrem) n z h x).1.getD True) (hJ : mx_J p l e R s m args below meth c Qf D cA base b adK w0 M mcT msT (mx_nx (.lrem) n z h x).2) : mx_J p l e R s m args below meth c Qf D cA base b adK w0 M mcT msT x := by
  obtain ⟨pc, ls, st, mm⟩ := x
  obtain ⟨hx, hb, hml, hown, hts, hK, hbase, hE, hnm, hsc⟩ := hX
  intro H locs lsA cells slots h1 h2 h3 hl hP hS
  have hd := of_decide_eq_true (show decide _ = true from hd0)
  obtain ⟨rfl, hd⟩ := hd
  have hd := mx_Dok hd
  rcases st with _ | ⟨v1, st⟩
  · exact False.elim hp
  rcases v1 with b1 | b1 | b1
  · exact False.elim hp
  · rcases st with _ | ⟨v2, st⟩
    · exact False.elim hp
    rcases v2 with a1 | a1 | a1
    · exact False.elim hp
    · obtain ⟨⟨q1, q2⟩, q3, q4⟩ := hp
      obtain ⟨ka, rfl⟩ := Int.eq_ofNat_of_zero_le q1
      obtain ⟨kb, rfl⟩ := Int.eq_ofNat_of_zero_le (show (0 : Int) ≤ b1 by omega)
      refine lv_lrem hx hb hd (fun hz => ?_) ?_
      · have h9 := congrArg Int64.toInt hz
        rw [mx_t64 ⟨by omega, by omega⟩] at h9
        have h8 : ((0 : Int64)).toInt = 0 := by decide
        omega
      · rw [mx_lN, mx_lN, pk_lRem (by omega) (by omega) (by omega), ← mx_lN]
        exact hJ H locs lsA cells slots h1 h2 h3 hl hP hS
    · exact False.elim hp
  · exact False.elim hp

theorem mx_s_lcmp {n h : Nat} {z : Int} {x : mx_C}  (hX : mx_X M p s m args meth c D cA base b adK adV w0) (hd0 : mx_dk M x.1 (.lcmp) n z = true) (hp : (mx_nx (.lcmp) n z h x).1.getD True) (hJ : mx_J p l e R s m args below meth c Qf D cA base b adK w0 M mcT msT (mx_nx (.lcmp) n z h x).2) : mx_J p l e R s m args below meth c Qf D cA base b adK w0 M mcT msT x := by
  obtain ⟨pc, ls, st, mm⟩ := x
  obtain ⟨hx, hb, hml, hown, hts, hK, hbase, hE, hnm, hsc⟩ := hX
  intro H locs lsA cells slots h1 h2 h3 hl hP hS
  have hd := of_decide_eq_true (show decide _ = true from hd0)
  obtain ⟨rfl, hd⟩ := hd
  have hd := mx_Dok hd
  rcases st with _ | ⟨v1, st⟩
  · exact False.elim hp
  rcases v1 with b1 | b1 | b1
  · exact False.elim hp
  · rcases st with _ | ⟨v2, st⟩
    · exact False.elim hp
    rcases v2 with a1 | a1 | a1
    · exact False.elim hp
    · refine W.lcmp hx hb hd ?_
      have e1 : lg_cmp (Int64.ofInt a1) (Int64.ofInt b1) = Int32.ofInt (mx_cmp a1 b1) := by
        unfold lg_cmp mx_cmp
        simp only [gt_iff_lt, Int64.lt_iff_toInt_lt, ← Int64.toInt_inj, mx_t64 hp.1, mx_t64 hp.2]
        by_cases g1 : a1 < b1
        · rw [if_neg (by omega), if_neg (by omega), if_pos g1]; rfl
        · by_cases g2 : a1 = b1
          · rw [if_neg (by omega), if_pos g2, if_neg g1, if_pos g2]; rfl
          · rw [if_pos (by omega), if_neg g1, if_neg g2]; rfl
      rw [e1]
      exact hJ H locs lsA cells slots h1 h2 h3 hl hP hS
    · exact False.elim hp
  · exact False.elim hp

theorem mx_s_i2l {n h : Nat} {z : Int} {x : mx_C}  (hX : mx_X M p s m args meth c D cA base b adK adV w0) (hd0 : mx_dk M x.1 (.i2l) n z = true) (hp : (mx_nx (.i2l) n z h x).1.getD True) (hJ : mx_J p l e R s m args below meth c Qf D cA base b adK w0 M mcT msT (mx_nx (.i2l) n z h x).2) : mx_J p l e R s m args below meth c Qf D cA base b adK w0 M mcT msT x := by
  obtain ⟨pc, ls, st, mm⟩ := x
  obtain ⟨hx, hb, hml, hown, hts, hK, hbase, hE, hnm, hsc⟩ := hX
  intro H locs lsA cells slots h1 h2 h3 hl hP hS
  have hd := of_decide_eq_true (show decide _ = true from hd0)
  obtain ⟨rfl, hd⟩ := hd
  have hd := mx_Dok hd
  rcases st with _ | ⟨v1, st⟩
  · exact False.elim hp
  rcases v1 with a1 | a1 | a1
  · refine lv_i2l (v := Int64.ofInt a1) hx hb hd ?_ ?_
    · exact Int64.toInt_inj.mp (by rw [Int32.toInt_toInt64, mx_t32 hp, mx_t64 (by have hp2 : -2147483648 ≤ a1 ∧ a1 < 2147483648 := hp; omega)])
    · exact hJ H locs lsA cells slots h1 h2 h3 hl hP hS
  · exact False.elim hp
  · exact False.elim hp

theorem mx_s_l2i {n h : Nat} {z : Int} {x : mx_C}  (hX : mx_X M p s m args meth c D cA base b adK adV w0) (hd0 : mx_dk M x.1 (.l2i) n z = true) (hp : (mx_nx (.l2i) n z h x).1.getD True) (hJ : mx_J p l e R s m args below meth c Qf D cA base b adK w0 M mcT msT (mx_nx (.l2i) n z h x).2) : mx_J p l e R s m args below meth c Qf D cA base b adK w0 M mcT msT x := by
  obtain ⟨pc, ls, st, mm⟩ := x
  obtain ⟨hx, hb, hml, hown, hts, hK, hbase, hE, hnm, hsc⟩ := hX
  intro H locs lsA cells slots h1 h2 h3 hl hP hS
  have hd := of_decide_eq_true (show decide _ = true from hd0)
  obtain ⟨rfl, hd⟩ := hd
  have hd := mx_Dok hd
  rcases st with _ | ⟨v1, st⟩
  · exact False.elim hp
  rcases v1 with a1 | a1 | a1
  · exact False.elim hp
  · refine lv_l2i (v := Int32.ofInt a1) hx hb hd Int64.toInt32_ofInt ?_
    exact hJ H locs lsA cells slots h1 h2 h3 hl hP hS
  · exact False.elim hp

theorem mx_s_i2b {n h : Nat} {z : Int} {x : mx_C}  (hX : mx_X M p s m args meth c D cA base b adK adV w0) (hd0 : mx_dk M x.1 (.i2b) n z = true) (hp : (mx_nx (.i2b) n z h x).1.getD True) (hJ : mx_J p l e R s m args below meth c Qf D cA base b adK w0 M mcT msT (mx_nx (.i2b) n z h x).2) : mx_J p l e R s m args below meth c Qf D cA base b adK w0 M mcT msT x := by
  obtain ⟨pc, ls, st, mm⟩ := x
  obtain ⟨hx, hb, hml, hown, hts, hK, hbase, hE, hnm, hsc⟩ := hX
  intro H locs lsA cells slots h1 h2 h3 hl hP hS
  have hd := of_decide_eq_true (show decide _ = true from hd0)
  obtain ⟨rfl, hd⟩ := hd
  have hd := mx_Dok hd
  rcases st with _ | ⟨v1, st⟩
  · exact False.elim hp
  rcases v1 with a1 | a1 | a1
  · refine lv_i2b (v := Int32.ofInt (mx_i2b a1)) hx hb hd (Int32.ofInt_toInt _).symm ?_
    exact hJ H locs lsA cells slots h1 h2 h3 hl hP hS
  · exact False.elim hp
  · exact False.elim hp

theorem mx_s_i2s {n h : Nat} {z : Int} {x : mx_C}  (hX : mx_X M p s m args meth c D cA base b adK adV w0) (hd0 : mx_dk M x.1 (.i2s) n z = true) (hp : (mx_nx (.i2s) n z h x).1.getD True) (hJ : mx_J p l e R s m args below meth c Qf D cA base b adK w0 M mcT msT (mx_nx (.i2s) n z h x).2) : mx_J p l e R s m args below meth c Qf D cA base b adK w0 M mcT msT x := by
  obtain ⟨pc, ls, st, mm⟩ := x
  obtain ⟨hx, hb, hml, hown, hts, hK, hbase, hE, hnm, hsc⟩ := hX
  intro H locs lsA cells slots h1 h2 h3 hl hP hS
  have hd := of_decide_eq_true (show decide _ = true from hd0)
  obtain ⟨rfl, hd⟩ := hd
  have hd := mx_Dok hd
  rcases st with _ | ⟨v1, st⟩
  · exact False.elim hp
  rcases v1 with a1 | a1 | a1
  · refine lv_i2s (v := Int32.ofInt (mx_i2s a1)) hx hb hd (Int32.ofInt_toInt _).symm ?_
    exact hJ H locs lsA cells slots h1 h2 h3 hl hP hS
  · exact False.elim hp
  · exact False.elim hp

theorem mx_s_iload {n h : Nat} {z : Int} {x : mx_C} {k : Nat} (hX : mx_X M p s m args meth c D cA base b adK adV w0) (hd0 : mx_dk M x.1 (.iload k) n z = true) (hp : (mx_nx (.iload k) n z h x).1.getD True) (hJ : mx_J p l e R s m args below meth c Qf D cA base b adK w0 M mcT msT (mx_nx (.iload k) n z h x).2) : mx_J p l e R s m args below meth c Qf D cA base b adK w0 M mcT msT x := by
  obtain ⟨pc, ls, st, mm⟩ := x
  obtain ⟨hx, hb, hml, hown, hts, hK, hbase, hE, hnm, hsc⟩ := hX
  intro H locs lsA cells slots h1 h2 h3 hl hP hS
  have hd := Bool.or_eq_true_iff.mp (show (_ || _) = true from hd0)
  simp only [mx_nx] at hp hJ
  cases hv : ls.getD k none with
  | none => rw [hv] at hp; exact False.elim hp
  | some v =>
    rw [hv] at hp hJ
    rcases v with e1 | e1 | e1
    · rcases hd with hd | hd
      · (replace hd := of_decide_eq_true hd; obtain ⟨rfl, hd⟩ := hd)
        refine lv_iload hx hb (mx_Dok hd) (mx_at hl hv) ?_
        exact hJ H locs lsA cells slots h1 h2 h3 hl hP hS
      · (replace hd := List.any_eq_true.mp hd; obtain ⟨f, -, hd⟩ := hd)
        (replace hd := of_decide_eq_true hd; obtain ⟨hf, rfl, hd⟩ := hd)
        refine lv_iload_n hx hb (mx_Dok hd) hf (mx_at hl hv) ?_
        exact hJ H locs lsA cells slots h1 h2 h3 hl hP hS
    · exact False.elim hp
    · exact False.elim hp

theorem mx_s_lload {n h : Nat} {z : Int} {x : mx_C} {k : Nat} (hX : mx_X M p s m args meth c D cA base b adK adV w0) (hd0 : mx_dk M x.1 (.lload k) n z = true) (hp : (mx_nx (.lload k) n z h x).1.getD True) (hJ : mx_J p l e R s m args below meth c Qf D cA base b adK w0 M mcT msT (mx_nx (.lload k) n z h x).2) : mx_J p l e R s m args below meth c Qf D cA base b adK w0 M mcT msT x := by
  obtain ⟨pc, ls, st, mm⟩ := x
  obtain ⟨hx, hb, hml, hown, hts, hK, hbase, hE, hnm, hsc⟩ := hX
  intro H locs lsA cells slots h1 h2 h3 hl hP hS
  have hd := Bool.or_eq_true_iff.mp (show (_ || _) = true from hd0)
  simp only [mx_nx] at hp hJ
  cases hv : ls.getD k none with
  | none => rw [hv] at hp; exact False.elim hp
  | some v =>
    rw [hv] at hp hJ
    rcases v with e1 | e1 | e1
    · exact False.elim hp
    · rcases hd with hd | hd
      · (replace hd := of_decide_eq_true hd; obtain ⟨rfl, hd⟩ := hd)
        refine lv_lload hx hb (mx_Dok hd) (mx_at hl hv) ?_
        exact hJ H locs lsA cells slots h1 h2 h3 hl hP hS
      · (replace hd := List.any_eq_true.mp hd; obtain ⟨f, -, hd⟩ := hd)
        (replace hd := of_decide_eq_true hd; obtain ⟨hf, rfl, hd⟩ := hd)
        refine lv_lload_n hx hb (mx_Dok hd) hf (mx_at hl hv) ?_
        exact hJ H locs lsA cells slots h1 h2 h3 hl hP hS
    · exact False.elim hp

theorem mx_s_aload {n h : Nat} {z : Int} {x : mx_C} {k : Nat} (hX : mx_X M p s m args meth c D cA base b adK adV w0) (hd0 : mx_dk M x.1 (.aload k) n z = true) (hp : (mx_nx (.aload k) n z h x).1.getD True) (hJ : mx_J p l e R s m args below meth c Qf D cA base b adK w0 M mcT msT (mx_nx (.aload k) n z h x).2) : mx_J p l e R s m args below meth c Qf D cA base b adK w0 M mcT msT x := by
  obtain ⟨pc, ls, st, mm⟩ := x
  obtain ⟨hx, hb, hml, hown, hts, hK, hbase, hE, hnm, hsc⟩ := hX
  intro H locs lsA cells slots h1 h2 h3 hl hP hS
  have hd := Bool.or_eq_true_iff.mp (show (_ || _) = true from hd0)
  simp only [mx_nx] at hp hJ
  cases hv : ls.getD k none with
  | none => rw [hv] at hp; exact False.elim hp
  | some v =>
    rw [hv] at hp hJ
    rcases v with e1 | e1 | e1
    · exact False.elim hp
    · exact False.elim hp
    · have h5 := mx_at hl hv
      have h6 := hJ H locs lsA cells slots h1 h2 h3 hl hP hS
      simp only [mx_go, List.map_cons] at h6
      generalize hy0 : mx_cv base b adK (.inr (.inr e1)) = y at h5 h6
      have hy : (∃ q, y = .ref q) ∨ y = .null := hy0 ▸ mx_refv base b adK e1
      rcases hy with ⟨q, rfl⟩ | rfl
      · rcases hd with hd | hd
        · (replace hd := of_decide_eq_true hd; obtain ⟨rfl, hd⟩ := hd)
          exact lv_aload hx hb (mx_Dok hd) h5 h6
        · (replace hd := List.any_eq_true.mp hd; obtain ⟨f, -, hd⟩ := hd)
          (replace hd := of_decide_eq_true hd; obtain ⟨hf, rfl, hd⟩ := hd)
          exact lv_aload_n hx hb (mx_Dok hd) hf h5 h6
      · rcases hd with hd | hd
        · (replace hd := of_decide_eq_true hd; obtain ⟨rfl, hd⟩ := hd)
          exact lv_aloadN hx hb (mx_Dok hd) h5 h6
        · (replace hd := List.any_eq_true.mp hd; obtain ⟨f, -, hd⟩ := hd)
          (replace hd := of_decide_eq_true hd; obtain ⟨hf, rfl, hd⟩ := hd)
          exact lv_aload_nN hx hb (mx_Dok hd) hf h5 h6

theorem mx_s_istore {n h : Nat} {z : Int} {x : mx_C} {k : Nat} (hX : mx_X M p s m args meth c D cA base b adK adV w0) (hd0 : mx_dk M x.1 (.istore k) n z = true) (hp : (mx_nx (.istore k) n z h x).1.getD True) (hJ : mx_J p l e R s m args below meth c Qf D cA base b adK w0 M mcT msT (mx_nx (.istore k) n z h x).2) : mx_J p l e R s m args below meth c Qf D cA base b adK w0 M mcT msT x := by
  obtain ⟨pc, ls, st, mm⟩ := x
  obtain ⟨hx, hb, hml, hown, hts, hK, hbase, hE, hnm, hsc⟩ := hX
  intro H locs lsA cells slots h1 h2 h3 hl hP hS
  have hd := Bool.or_eq_true_iff.mp (show (_ || _) = true from hd0)
  rcases st with _ | ⟨v1, st⟩
  · exact False.elim hp
  simp only [mx_nx] at hp hJ
  rcases v1 with a1 | a1 | a1
  · cases hg : (!mx_lg ls k && Nat.blt k ls.length) with
    | false => rw [hg] at hp; exact False.elim hp
    | true =>
      rw [hg] at hJ
      obtain ⟨g1, g2⟩ := Bool.and_eq_true_iff.mp hg
      have g1 : mx_lg ls k = false := by simpa using g1
      have g2 : k < (mx_row M).2.2.2.1 := by rw [← show ls.length = _ from h3]; exact Nat.le_of_ble_eq_true g2
      have h6 := fun ls2 (q : lv_has ls2 _ _) => hJ H locs ls2 cells slots h1 h2 (by show (List.set _ _ _).length = _; rw [List.length_set]; exact h3) (mx_set1 q g1) hP hS
      rcases hd with hd | hd
      · (replace hd := of_decide_eq_true hd; obtain ⟨rfl, hd⟩ := hd)
        exact lv_istore hx hb (mx_Dok hd) hl g2 rfl h6
      · (replace hd := List.any_eq_true.mp hd; obtain ⟨f, -, hd⟩ := hd)
        (replace hd := of_decide_eq_true hd; obtain ⟨hf, rfl, hd⟩ := hd)
        exact lv_istore_n hx hb (mx_Dok hd) hf hl g2 rfl h6
  · exact False.elim hp
  · exact False.elim hp

theorem mx_s_astore {n h : Nat} {z : Int} {x : mx_C} {k : Nat} (hX : mx_X M p s m args meth c D cA base b adK adV w0) (hd0 : mx_dk M x.1 (.astore k) n z = true) (hp : (mx_nx (.astore k) n z h x).1.getD True) (hJ : mx_J p l e R s m args below meth c Qf D cA base b adK w0 M mcT msT (mx_nx (.astore k) n z h x).2) : mx_J p l e R s m args below meth c Qf D cA base b adK w0 M mcT msT x := by
  obtain ⟨pc, ls, st, mm⟩ := x
  obtain ⟨hx, hb, hml, hown, hts, hK, hbase, hE, hnm, hsc⟩ := hX
  intro H locs lsA cells slots h1 h2 h3 hl hP hS
  have hd := Bool.or_eq_true_iff.mp (show (_ || _) = true from hd0)
  rcases st with _ | ⟨v1, st⟩
  · exact False.elim hp
  simp only [mx_nx] at hp hJ
  rcases v1 with a1 | a1 | a1
  · exact False.elim hp
  · exact False.elim hp
  · cases hg : (!mx_lg ls k && Nat.blt k ls.length) with
    | false => rw [hg] at hp; exact False.elim hp
    | true =>
      rw [hg] at hJ
      obtain ⟨g1, g2⟩ := Bool.and_eq_true_iff.mp hg
      have g1 : mx_lg ls k = false := by simpa using g1
      have g2 : k < (mx_row M).2.2.2.1 := by rw [← show ls.length = _ from h3]; exact Nat.le_of_ble_eq_true g2
      have h6 := fun ls2 (q : lv_has ls2 _ _) => hJ H locs ls2 cells slots h1 h2 (by show (List.set _ _ _).length = _; rw [List.length_set]; exact h3) (mx_set1 q g1) hP hS
      show W _ _ _ _ _ _ _ _ _ _ _ _ _ _ _ (F0 _ _ _ (mx_cv base b adK (.inr (.inr a1)) :: _))
      generalize hy0 : mx_cv base b adK (.inr (.inr a1)) = y at h6 ⊢
      have hy : (∃ q, y = .ref q) ∨ y = .null := hy0 ▸ mx_refv base b adK a1
      rcases hy with ⟨q, rfl⟩ | rfl
      · rcases hd with hd | hd
        · (replace hd := of_decide_eq_true hd; obtain ⟨rfl, hd⟩ := hd)
          exact lv_astore hx hb (mx_Dok hd) hl g2 rfl h6
        · (replace hd := List.any_eq_true.mp hd; obtain ⟨f, -, hd⟩ := hd)
          (replace hd := of_decide_eq_true hd; obtain ⟨hf, rfl, hd⟩ := hd)
          exact lv_astore_n hx hb (mx_Dok hd) hf hl g2 rfl h6
      · rcases hd with hd | hd
        · (replace hd := of_decide_eq_true hd; obtain ⟨rfl, hd⟩ := hd)
          exact lv_astoreN hx hb (mx_Dok hd) hl g2 rfl h6
        · (replace hd := List.any_eq_true.mp hd; obtain ⟨f, -, hd⟩ := hd)
          (replace hd := of_decide_eq_true hd; obtain ⟨hf, rfl, hd⟩ := hd)
          exact lv_astore_nN hx hb (mx_Dok hd) hf hl g2 rfl h6

theorem mx_s_lstore {n h : Nat} {z : Int} {x : mx_C} {k : Nat} (hX : mx_X M p s m args meth c D cA base b adK adV w0) (hd0 : mx_dk M x.1 (.lstore k) n z = true) (hp : (mx_nx (.lstore k) n z h x).1.getD True) (hJ : mx_J p l e R s m args below meth c Qf D cA base b adK w0 M mcT msT (mx_nx (.lstore k) n z h x).2) : mx_J p l e R s m args below meth c Qf D cA base b adK w0 M mcT msT x := by
  obtain ⟨pc, ls, st, mm⟩ := x
  obtain ⟨hx, hb, hml, hown, hts, hK, hbase, hE, hnm, hsc⟩ := hX
  intro H locs lsA cells slots h1 h2 h3 hl hP hS
  have hd := Bool.or_eq_true_iff.mp (show (_ || _) = true from hd0)
  rcases st with _ | ⟨v1, st⟩
  · exact False.elim hp
  simp only [mx_nx] at hp hJ
  rcases v1 with a1 | a1 | a1
  · exact False.elim hp
  · cases hg : (!mx_lg ls k && Nat.blt (k + 1) ls.length) with
    | false => rw [hg] at hp; exact False.elim hp
    | true =>
      rw [hg] at hJ
      obtain ⟨g1, g2⟩ := Bool.and_eq_true_iff.mp hg
      have g1 : mx_lg ls k = false := by simpa using g1
      have g3 : k + 1 < ls.length := Nat.le_of_ble_eq_true g2
      have g2 : k + 1 < (mx_row M).2.2.2.1 := by rw [← show ls.length = _ from h3]; exact g3
      have h6 := fun ls2 (q : lv_has ls2 _ _) => hJ H locs ls2 cells slots h1 h2 (by show (List.set (List.set _ _ _) _ _).length = _; rw [List.length_set, List.length_set]; exact h3) (mx_set2 q g1 g3) hP hS
      rcases hd with hd | hd
      · (replace hd := of_decide_eq_true hd; obtain ⟨rfl, hd⟩ := hd)
        exact lv_lstore hx hb (mx_Dok hd) hl g2 rfl h6
      · (replace hd := List.any_eq_true.mp hd; obtain ⟨f, -, hd⟩ := hd)
        (replace hd := of_decide_eq_true hd; obtain ⟨hf, rfl, hd⟩ := hd)
        exact lv_lstore_n hx hb (mx_Dok hd) hf hl g2 rfl h6
  · exact False.elim hp

theorem mx_s_iinc {n h : Nat} {z : Int} {x : mx_C} {k : Nat} {d : Int} (hX : mx_X M p s m args meth c D cA base b adK adV w0) (hd0 : mx_dk M x.1 (.iinc k d) n z = true) (hp : (mx_nx (.iinc k d) n z h x).1.getD True) (hJ : mx_J p l e R s m args below meth c Qf D cA base b adK w0 M mcT msT (mx_nx (.iinc k d) n z h x).2) : mx_J p l e R s m args below meth c Qf D cA base b adK w0 M mcT msT x := by
  obtain ⟨pc, ls, st, mm⟩ := x
  obtain ⟨hx, hb, hml, hown, hts, hK, hbase, hE, hnm, hsc⟩ := hX
  intro H locs lsA cells slots h1 h2 h3 hl hP hS
  have hd := of_decide_eq_true (show decide _ = true from hd0)
  obtain ⟨rfl, hd⟩ := hd
  simp only [mx_nx] at hp hJ
  cases hv : ls.getD k none with
  | none => rw [hv] at hp; exact False.elim hp
  | some v =>
    rw [hv] at hp hJ
    rcases v with e1 | e1 | e1
    · simp only at hp hJ
      cases hg : (!mx_lg ls k && Nat.blt k ls.length) with
      | false => rw [hg] at hp; exact False.elim hp
      | true =>
        rw [hg] at hJ
        obtain ⟨g1, g2⟩ := Bool.and_eq_true_iff.mp hg
        have g1 : mx_lg ls k = false := by simpa using g1
        have g2 : k < (mx_row M).2.2.2.1 := by rw [← show ls.length = _ from h3]; exact Nat.le_of_ble_eq_true g2
        obtain ⟨i, hi⟩ := List.getElem?_of_mem (mx_pr_mem.mpr ⟨_, hv, rfl⟩ : (k, mx_cv base b adK (.inl e1)) ∈ mx_pr base b adK ls)
        refine lv_iinc hx hb (mx_Dok hd) hl hi (Int32.ofInt_add e1 d).symm g2 rfl (fun ls2 q => ?_)
        exact hJ H locs ls2 cells slots h1 h2 (by show (List.set _ _ _).length = _; rw [List.length_set]; exact h3) (mx_set1 (v := .inl (e1 + d)) q g1) hP hS
    · exact False.elim hp
    · exact False.elim hp

theorem mx_s_iconst {n h : Nat} {z : Int} {x : mx_C} {v : Int} (hX : mx_X M p s m args meth c D cA base b adK adV w0) (hd0 : mx_dk M x.1 (.iconst v) n z = true) (hp : (mx_nx (.iconst v) n z h x).1.getD True) (hJ : mx_J p l e R s m args below meth c Qf D cA base b adK w0 M mcT msT (mx_nx (.iconst v) n z h x).2) : mx_J p l e R s m args below meth c Qf D cA base b adK w0 M mcT msT x := by
  obtain ⟨pc, ls, st, mm⟩ := x
  obtain ⟨hx, hb, hml, hown, hts, hK, hbase, hE, hnm, hsc⟩ := hX
  intro H locs lsA cells slots h1 h2 h3 hl hP hS
  have hd := Bool.or_eq_true_iff.mp (show (_ || _) = true from hd0)
  have h6 := hJ H locs lsA cells slots h1 h2 h3 hl hP hS
  rcases hd with hd | hd
  · (replace hd := of_decide_eq_true hd; obtain ⟨rfl, hd⟩ := hd)
    exact lv_iconst hx hb (mx_Dok hd) rfl h6
  replace hd := Bool.or_eq_true_iff.mp hd
  rcases hd with hd | hd
  · (replace hd := of_decide_eq_true hd; obtain ⟨rfl, hv, hd⟩ := hd)
    exact lv_bipush hx hb (mx_Dok hd) hv h6
  replace hd := Bool.or_eq_true_iff.mp hd
  rcases hd with hd | hd
  · (replace hd := of_decide_eq_true hd; obtain ⟨rfl, hv, hd⟩ := hd)
    exact lv_sipush hx hb (mx_Dok hd) hv h6
  replace hd := Bool.or_eq_true_iff.mp hd
  rcases hd with hd | hd
  · (replace hd := List.any_eq_true.mp hd; obtain ⟨q, hq, hd⟩ := hd)
    (replace hd := of_decide_eq_true hd; obtain ⟨e1, rfl, rfl, hd⟩ := hd)
    obtain ⟨g1, g2⟩ := mx_cs_ok q hq
    rw [e1] at g1 g2
    exact lv_ldc hx hb hown (hts _ g1 g2) (mx_Dok hd) h6
  · (replace hd := List.any_eq_true.mp hd; obtain ⟨q, hq, hd⟩ := hd)
    (replace hd := of_decide_eq_true hd; obtain ⟨e1, rfl, rfl, hd⟩ := hd)
    obtain ⟨g1, g2⟩ := mx_cs_ok q hq
    rw [e1] at g1 g2
    exact lv_ldcw hx hb hown (hts _ g1 g2) (mx_Dok hd) h6

theorem mx_s_sipush {n h : Nat} {z : Int} {x : mx_C} {v : Int} (hX : mx_X M p s m args meth c D cA base b adK adV w0) (hd0 : mx_dk M x.1 (.sipush v) n z = true) (hp : (mx_nx (.sipush v) n z h x).1.getD True) (hJ : mx_J p l e R s m args below meth c Qf D cA base b adK w0 M mcT msT (mx_nx (.sipush v) n z h x).2) : mx_J p l e R s m args below meth c Qf D cA base b adK w0 M mcT msT x := by
  obtain ⟨pc, ls, st, mm⟩ := x
  obtain ⟨hx, hb, hml, hown, hts, hK, hbase, hE, hnm, hsc⟩ := hX
  intro H locs lsA cells slots h1 h2 h3 hl hP hS
  have hd := Bool.or_eq_true_iff.mp (show (_ || _) = true from hd0)
  have h6 := hJ H locs lsA cells slots h1 h2 h3 hl hP hS
  rcases hd with hd | hd
  · (replace hd := of_decide_eq_true hd; obtain ⟨rfl, rfl, hd⟩ := hd)
    exact lv_lconst hx hb (mx_Dok hd) (by decide) h6
  replace hd := Bool.or_eq_true_iff.mp hd
  rcases hd with hd | hd
  · (replace hd := of_decide_eq_true hd; obtain ⟨rfl, rfl, hd⟩ := hd)
    exact lv_lconst hx hb (mx_Dok hd) (by decide) h6
  · (replace hd := List.any_eq_true.mp hd; obtain ⟨q, hq, hd⟩ := hd)
    (replace hd := of_decide_eq_true hd; obtain ⟨e1, rfl, rfl, hd⟩ := hd)
    obtain ⟨g1, g2⟩ := mx_cl2_ok q hq
    rw [e1] at g1 g2
    exact lv_ldc2 hx hb hown (hts _ g1 g2) (mx_Dok hd) h6

theorem mx_s_ldc {n h : Nat} {z : Int} {x : mx_C} {k : Nat} (hX : mx_X M p s m args meth c D cA base b adK adV w0) (hd0 : mx_dk M x.1 (.ldc k) n z = true) (hp : (mx_nx (.ldc k) n z h x).1.getD True) (hJ : mx_J p l e R s m args below meth c Qf D cA base b adK w0 M mcT msT (mx_nx (.ldc k) n z h x).2) : mx_J p l e R s m args below meth c Qf D cA base b adK w0 M mcT msT x := by
  obtain ⟨pc, ls, st, mm⟩ := x
  obtain ⟨hx, hb, hml, hown, hts, hK, hbase, hE, hnm, hsc⟩ := hX
  intro H locs lsA cells slots h1 h2 h3 hl hP hS
  have h6 := hJ H locs lsA cells slots h1 h2 h3 hl hP hS
  obtain ⟨q, hq, hd⟩ := List.any_eq_true.mp (show List.any _ _ = true from hd0)
  (replace hd := of_decide_eq_true hd; obtain ⟨e1, rfl, e2, rfl, hd⟩ := hd)
  have g := hE.2.2 q hq
  rw [e1] at g
  refine va_ldcS hx hb hown g (mx_Dok hd) ?_
  have e3 : mx_cv base b adK (.inr (.inr (-3 - (q.2.2.1 : Int)))) = .ref (adK q.2.2.1) := by
    show (if _ then _ else _ : Value) = _
    rw [if_neg (by omega), if_neg (by omega), if_neg (by omega)]
    congr 2
    omega
  rw [← e3]
  exact h6

theorem mx_s_dup {n h : Nat} {z : Int} {x : mx_C}  (hX : mx_X M p s m args meth c D cA base b adK adV w0) (hd0 : mx_dk M x.1 (.dup) n z = true) (hp : (mx_nx (.dup) n z h x).1.getD True) (hJ : mx_J p l e R s m args below meth c Qf D cA base b adK w0 M mcT msT (mx_nx (.dup) n z h x).2) : mx_J p l e R s m args below meth c Qf D cA base b adK w0 M mcT msT x := by
  obtain ⟨pc, ls, st, mm⟩ := x
  obtain ⟨hx, hb, hml, hown, hts, hK, hbase, hE, hnm, hsc⟩ := hX
  intro H locs lsA cells slots h1 h2 h3 hl hP hS
  have hd := of_decide_eq_true (show decide _ = true from hd0)
  obtain ⟨rfl, hd⟩ := hd
  rcases st with _ | ⟨v1, st⟩
  · exact False.elim hp
  rcases v1 with a1 | a1 | a1
  · exact lv_dup hx hb (mx_Dok hd) rfl (hJ H locs lsA cells slots h1 h2 h3 hl hP hS)
  · exact False.elim hp
  · exact lv_dup hx hb (mx_Dok hd) (mx_cvcat _ _ _ _) (hJ H locs lsA cells slots h1 h2 h3 hl hP hS)

theorem mx_s_pop {n h : Nat} {z : Int} {x : mx_C}  (hX : mx_X M p s m args meth c D cA base b adK adV w0) (hd0 : mx_dk M x.1 (.pop) n z = true) (hp : (mx_nx (.pop) n z h x).1.getD True) (hJ : mx_J p l e R s m args below meth c Qf D cA base b adK w0 M mcT msT (mx_nx (.pop) n z h x).2) : mx_J p l e R s m args below meth c Qf D cA base b adK w0 M mcT msT x := by
  obtain ⟨pc, ls, st, mm⟩ := x
  obtain ⟨hx, hb, hml, hown, hts, hK, hbase, hE, hnm, hsc⟩ := hX
  intro H locs lsA cells slots h1 h2 h3 hl hP hS
  have hd := of_decide_eq_true (show decide _ = true from hd0)
  obtain ⟨rfl, hd⟩ := hd
  rcases st with _ | ⟨v1, st⟩
  · exact False.elim hp
  rcases v1 with a1 | a1 | a1
  · exact lv_pop hx hb (mx_Dok hd) rfl (hJ H locs lsA cells slots h1 h2 h3 hl hP hS)
  · exact False.elim hp
  · exact lv_pop hx hb (mx_Dok hd) (mx_cvcat _ _ _ _) (hJ H locs lsA cells slots h1 h2 h3 hl hP hS)

theorem mx_s_dup2 {n h : Nat} {z : Int} {x : mx_C}  (hX : mx_X M p s m args meth c D cA base b adK adV w0) (hd0 : mx_dk M x.1 (.dup2) n z = true) (hp : (mx_nx (.dup2) n z h x).1.getD True) (hJ : mx_J p l e R s m args below meth c Qf D cA base b adK w0 M mcT msT (mx_nx (.dup2) n z h x).2) : mx_J p l e R s m args below meth c Qf D cA base b adK w0 M mcT msT x := by
  obtain ⟨pc, ls, st, mm⟩ := x
  obtain ⟨hx, hb, hml, hown, hts, hK, hbase, hE, hnm, hsc⟩ := hX
  intro H locs lsA cells slots h1 h2 h3 hl hP hS
  have hd := of_decide_eq_true (show decide _ = true from hd0)
  obtain ⟨rfl, hd⟩ := hd
  rcases st with _ | ⟨v1, st⟩
  · exact False.elim hp
  rcases st with _ | ⟨v2, st⟩
  · rcases v1 with a1 | a1 | a1 <;> exact False.elim hp
  rcases v1 with a1 | a1 | a1 <;> rcases v2 with a2 | a2 | a2 <;> first | exact False.elim hp | exact lv_dup2_11 hx hb (mx_Dok hd) (mx_cvcat _ _ _ _) (mx_cvcat _ _ _ _) (hJ H locs lsA cells slots h1 h2 h3 hl hP hS)

theorem mx_s_icmp {n h : Nat} {z : Int} {x : mx_C} {k : ClassFile.Cond} {t : Int} (hX : mx_X M p s m args meth c D cA base b adK adV w0) (hd0 : mx_dk M x.1 (.if_icmp k t) n z = true) (hp : (mx_nx (.if_icmp k t) n z h x).1.getD True) (hJ : mx_J p l e R s m args below meth c Qf D cA base b adK w0 M mcT msT (mx_nx (.if_icmp k t) n z h x).2) : mx_J p l e R s m args below meth c Qf D cA base b adK w0 M mcT msT x := by
  obtain ⟨pc, ls, st, mm⟩ := x
  obtain ⟨hx, hb, hml, hown, hts, hK, hbase, hE, hnm, hsc⟩ := hX
  intro H locs lsA cells slots h1 h2 h3 hl hP hS
  have hd := of_decide_eq_true (show decide _ = true from hd0)
  obtain ⟨rfl, ht0, hd⟩ := hd
  have hd := mx_Dok hd
  have ht : (pc : Int) + (t - (pc : Int)) = ((t.toNat : Nat) : Int) := by omega
  rcases st with _ | ⟨v1, st⟩
  · exact False.elim hp
  rcases v1 with b1 | b1 | b1
  · rcases st with _ | ⟨v2, st⟩
    · exact False.elim hp
    rcases v2 with a1 | a1 | a1
    · simp only [mx_nx] at hp hJ
      cases hh : Nat.beq h 1 with
      | true =>
        rw [hh] at hp hJ
        obtain ⟨hr, hp⟩ := hp
        have h6 := hJ H locs lsA cells slots h1 h2 h3 hl hP hS
        cases k
        · exact lv_icmp_eq hx hb hd ht (fun _ => h6) (fun q => absurd ((mx_eq32 hr).mpr hp) q)
        · exact lv_icmp_ne hx hb hd ht (fun _ => h6) (fun q => absurd ((mx_eq32 hr).mp q) hp)
        · exact lv_icmp_lt hx hb hd ht (fun _ => h6) (fun q => absurd ((mx_lt32 hr).mpr hp) q)
        · exact lv_icmp_ge hx hb hd ht (fun _ => h6) (fun q => absurd ((mx_le32 ⟨hr.2, hr.1⟩).mpr hp) q)
        · exact lv_icmp_gt hx hb hd ht (fun _ => h6) (fun q => absurd ((mx_lt32 ⟨hr.2, hr.1⟩).mpr hp) q)
        · exact lv_icmp_le hx hb hd ht (fun _ => h6) (fun q => absurd ((mx_le32 hr).mpr hp) q)
      | false =>
        rw [hh] at hp hJ
        cases hh2 : Nat.beq h 2 with
        | true =>
          rw [hh2] at hp hJ
          obtain ⟨rfl, rfl⟩ := hp
          exact lv_icmp_eq hx hb hd ht (fun _ => hJ H locs lsA cells slots h1 h2 h3 hl hP hS) (fun q => absurd rfl q)
        | false =>
          rw [hh2] at hp hJ
          obtain ⟨hr, hp⟩ := hp
          have h6 := hJ H locs lsA cells slots h1 h2 h3 hl hP hS
          cases k
          · exact lv_icmp_eq hx hb hd ht (fun q => absurd (hp ((mx_eq32 hr).mp q)) (fun z => z)) (fun _ => h6)
          · exact lv_icmp_ne hx hb hd ht (fun q => absurd (q ((mx_eq32 hr).mpr hp)) (fun z => z)) (fun _ => h6)
          · exact lv_icmp_lt hx hb hd ht (fun q => absurd (Int.not_lt.mpr hp ((mx_lt32 hr).mp q)) (fun z => z)) (fun _ => h6)
          · exact lv_icmp_ge hx hb hd ht (fun q => absurd (Int.not_le.mpr hp ((mx_le32 ⟨hr.2, hr.1⟩).mp q)) (fun z => z)) (fun _ => h6)
          · exact lv_icmp_gt hx hb hd ht (fun q => absurd (Int.not_lt.mpr hp ((mx_lt32 ⟨hr.2, hr.1⟩).mp q)) (fun z => z)) (fun _ => h6)
          · exact lv_icmp_le hx hb hd ht (fun q => absurd (Int.not_le.mpr hp ((mx_le32 hr).mp q)) (fun z => z)) (fun _ => h6)
    · exact False.elim hp
    · exact False.elim hp
  · exact False.elim hp
  · exact False.elim hp

theorem mx_s_icond {n h : Nat} {z : Int} {x : mx_C} {k : ClassFile.Cond} {t : Int} (hX : mx_X M p s m args meth c D cA base b adK adV w0) (hd0 : mx_dk M x.1 (.ifCond k t) n z = true) (hp : (mx_nx (.ifCond k t) n z h x).1.getD True) (hJ : mx_J p l e R s m args below meth c Qf D cA base b adK w0 M mcT msT (mx_nx (.ifCond k t) n z h x).2) : mx_J p l e R s m args below meth c Qf D cA base b adK w0 M mcT msT x := by
  obtain ⟨pc, ls, st, mm⟩ := x
  obtain ⟨hx, hb, hml, hown, hts, hK, hbase, hE, hnm, hsc⟩ := hX
  intro H locs lsA cells slots h1 h2 h3 hl hP hS
  have hd := of_decide_eq_true (show decide _ = true from hd0)
  obtain ⟨rfl, ht0, hd⟩ := hd
  have hd := mx_Dok hd
  have ht : (pc : Int) + (t - (pc : Int)) = ((t.toNat : Nat) : Int) := by omega
  rcases st with _ | ⟨v1, st⟩
  · exact False.elim hp
  rcases v1 with a1 | a1 | a1
  · · simp only [mx_nx] at hp hJ
      cases hh : Nat.beq h 1 with
      | true =>
        rw [hh] at hp hJ
        obtain ⟨hr0, hp⟩ := hp
        have hr : (-2147483648 ≤ a1 ∧ a1 < 2147483648) ∧ -2147483648 ≤ (0 : Int) ∧ (0 : Int) < 2147483648 := ⟨hr0, by decide, by decide⟩
        have h6 := hJ H locs lsA cells slots h1 h2 h3 hl hP hS
        cases k
        · exact lv_if_eq hx hb hd ht (fun _ => h6) (fun q => absurd ((mx_eq32 hr).mpr hp) q)
        · exact lv_if_ne hx hb hd ht (fun _ => h6) (fun q => absurd ((mx_eq32 hr).mp q) hp)
        · exact lv_if_lt hx hb hd ht (fun _ => h6) (fun q => absurd ((mx_lt32 hr).mpr hp) q)
        · exact lv_if_ge hx hb hd ht (fun _ => h6) (fun q => absurd ((mx_le32 ⟨hr.2, hr.1⟩).mpr hp) q)
        · exact lv_if_gt hx hb hd ht (fun _ => h6) (fun q => absurd ((mx_lt32 ⟨hr.2, hr.1⟩).mpr hp) q)
        · exact lv_if_le hx hb hd ht (fun _ => h6) (fun q => absurd ((mx_le32 hr).mpr hp) q)
      | false =>
        rw [hh] at hp hJ
        obtain ⟨hr0, hp⟩ := hp
        have hr : (-2147483648 ≤ a1 ∧ a1 < 2147483648) ∧ -2147483648 ≤ (0 : Int) ∧ (0 : Int) < 2147483648 := ⟨hr0, by decide, by decide⟩
        have h6 := hJ H locs lsA cells slots h1 h2 h3 hl hP hS
        cases k
        · exact lv_if_eq hx hb hd ht (fun q => absurd (hp ((mx_eq32 hr).mp q)) (fun z => z)) (fun _ => h6)
        · exact lv_if_ne hx hb hd ht (fun q => absurd (q ((mx_eq32 hr).mpr hp)) (fun z => z)) (fun _ => h6)
        · exact lv_if_lt hx hb hd ht (fun q => absurd (Int.not_lt.mpr hp ((mx_lt32 hr).mp q)) (fun z => z)) (fun _ => h6)
        · exact lv_if_ge hx hb hd ht (fun q => absurd (Int.not_le.mpr hp ((mx_le32 ⟨hr.2, hr.1⟩).mp q)) (fun z => z)) (fun _ => h6)
        · exact lv_if_gt hx hb hd ht (fun q => absurd (Int.not_lt.mpr hp ((mx_lt32 ⟨hr.2, hr.1⟩).mp q)) (fun z => z)) (fun _ => h6)
        · exact lv_if_le hx hb hd ht (fun q => absurd (Int.not_le.mpr hp ((mx_le32 hr).mp q)) (fun z => z)) (fun _ => h6)
  · exact False.elim hp
  · exact False.elim hp

theorem mx_s_goto {n h : Nat} {z : Int} {x : mx_C} {t : Int} (hX : mx_X M p s m args meth c D cA base b adK adV w0) (hd0 : mx_dk M x.1 (.goto t) n z = true) (hp : (mx_nx (.goto t) n z h x).1.getD True) (hJ : mx_J p l e R s m args below meth c Qf D cA base b adK w0 M mcT msT (mx_nx (.goto t) n z h x).2) : mx_J p l e R s m args below meth c Qf D cA base b adK w0 M mcT msT x := by
  obtain ⟨pc, ls, st, mm⟩ := x
  obtain ⟨hx, hb, hml, hown, hts, hK, hbase, hE, hnm, hsc⟩ := hX
  intro H locs lsA cells slots h1 h2 h3 hl hP hS
  have hd := of_decide_eq_true (show decide _ = true from hd0)
  obtain ⟨rfl, ht0, hd⟩ := hd
  exact lv_goto (tgt := t.toNat) hx hb (mx_Dok hd) (by show (pc : Int) + _ = _; omega) (hJ H locs lsA cells slots h1 h2 h3 hl hP hS)

end SND
