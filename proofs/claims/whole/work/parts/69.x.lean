/-! WHAT STANDS AT THE LAW's ENTRY -/
def ws_k (i : Nat) : Nat := [78, 84, 86, 88, 90, 92, 94, 96].getD i 0
def ws_t (i : Nat) : Term := .string "HedgeReader$Clauses" (ws_k i)
def ws_f : List Cond := flatC (Jvm.Cond.and given_1 narrow_1)
theorem ws_1 : ∀ i, i < 8 → Cond.exactly (ws_t i) "java/lang/String" ∈ ws_f ∧ Cond.eq (.field (ws_t i) "java/lang/String" "coder" "B") (.int 0) ∈ ws_f ∧ Cond.arrayOf (.field (ws_t i) "java/lang/String" "value" "[B") .byte ∈ ws_f ∧ Cond.eq (.length (.field (ws_t i) "java/lang/String" "value" "[B")) (.int (Int32.ofNat (mx_len8.getD i 0))) ∈ ws_f := by decide +kernel
theorem ws_2 : ∀ i, i < 8 → ∀ j, j < mx_len8.getD i 0 → Cond.eq (.elem (.field (ws_t i) "java/lang/String" "value" "[B") (.int (Int32.ofNat j))) (.int ((mx_byt8.getD i []).getD j 0)) ∈ ws_f := by decide +kernel
theorem ws_3 : ∀ i, i < 8 → ∀ j, j < 8 → i ≠ j → (Cond.not (Cond.eq (ws_t i) (ws_t j)) ∈ ws_f ∨ Cond.not (Cond.eq (ws_t j) (ws_t i)) ∈ ws_f) := by decide +kernel
theorem ws_arr {s : State} {args : Array Value} {ty : FieldType} (hty : ∀ C, ty ≠ .object C) (h : (Cond.arrayClass ty).before args s = true) : ∃ cA : ClassId, ArrOfT s cA ty ∧ va_RA s cA ty := by
  obtain ⟨cA, kA, comp, h1, h2, h3⟩ := Cond.arrayClass_spec h
  refine ⟨cA, fun n z => ⟨fun k h => (by cases h), kA, h2, comp, h3⟩, ?_⟩
  cases ty <;> first | exact h1 | exact absurd rfl (hty _)
theorem ws_arr2 {s : State} {args : Array Value} (h : (Cond.arrayOver (.array .int)).before args s = true) : ∃ cA : ClassId, ArrOfT s cA (.array .int) ∧ va_RA s cA (.array .int) := by
  obtain ⟨comp, cA, kA, -, h2, h3, h4⟩ := Cond.arrayOver_specA h
  exact ⟨cA, fun n z => ⟨fun k h => (by cases h), kA, h2, comp, h3⟩, h4⟩
theorem ws_arrO {s : State} {args : Array Value} {C : String} (h : (Cond.arrayOver (.object C)).before args s = true) : ∃ cA : ClassId, ArrOfT s cA (.object C) ∧ va_RA s cA (.object C) := by
  obtain ⟨comp, cA, kA, h1, -, h2, h3, h4⟩ := Cond.arrayOver_spec h
  exact ⟨cA, fun n z => ⟨fun k h => (by cases h), kA, h2, comp, h3⟩, kA, comp, h2, h3, h1, h4⟩
theorem ws_cl : ∀ k, k < 10 → Cond.instantiable (mx_cl.getD k ("", mT_X0, 0)).1 (mx_cl.getD k ("", mT_X0, 0)).2.2 ∈ lw_tbl := by decide +kernel
theorem ws_env {s : State} {args : Array Value} (hts : ∀ w ∈ lw_tbl, w.before args s = true) (hgv : (Jvm.Cond.and given_1 narrow_1).before args s = true) : ∃ (D : va_G) (cA : Nat → ClassId) (adK adV : Nat → Nat), va_K D mx_cl (mx_ty cA) s ∧ mx_E s.heap.size adK adV s ∧ mx_St s.heap.size adK adV s s.heap := by
  have hs : ∀ w ∈ ws_f, w.before args s = true := flat_of_before _ hgv
  have hA : ∀ a : Nat, a < s.heap.size → ¬ (fun q => s.heap.size ≤ q) a := fun a h => Nat.not_le.mpr h
  obtain ⟨adK, adV, hV, hT⟩ := vk_Sof (s := s) (args := args) (N := 8) (tm := ws_t) (len := mx_len8) (byt := mx_byt8) (A := fun q => s.heap.size ≤ q) (by decide +kernel) (fun i hi => hs _ (ws_1 i hi).1) (fun i hi => hs _ (ws_1 i hi).2.1) (fun i hi => hs _ (ws_1 i hi).2.2.1) (fun i hi => hs _ (ws_1 i hi).2.2.2) (fun i hi j hj => hs _ (ws_2 i hi j hj)) (fun i j hi hj hij => (ws_3 i hi j hj hij).imp (hs _) (hs _)) hA
  have hkn : ∀ k : Nat, ∃ q : ClassId × (Nat → Nat), ∀ r : vw_C, mx_cl[k]? = some r → u_Kn s r.1 r.2.1 r.2.2 q.1 q.2 := by
    intro k
    cases hr : mx_cl[k]? with
    | none => exact ⟨⟨0, fun _ => 0⟩, fun r h => by cases h⟩
    | some r =>
      have hk : k < 10 := (List.getElem?_eq_some_iff.mp hr).1
      have hg : mx_cl.getD k ("", mT_X0, 0) = r := by rw [List.getD_eq_getElem?_getD, hr]; rfl
      have hi := hts _ (ws_cl k hk)
      rw [hg] at hi
      obtain ⟨cC, iS, h⟩ := u_known (ws := lw_tbl) hts (fun w hw => (mx_gw_mem (mx_inw hr w hw)).1) hi
      exact ⟨⟨cC, iS⟩, fun r' h' => by cases h'; exact h⟩
  obtain ⟨f, hf⟩ := Classical.axiomOfChoice hkn
  obtain ⟨cI, i1, i2⟩ := ws_arr (ty := .int) (fun _ h => by cases h) (hts (.arrayClass .int) (by decide +kernel))
  obtain ⟨cZ, z1, z2⟩ := ws_arr (ty := .boolean) (fun _ h => by cases h) (hts (.arrayClass .boolean) (by decide +kernel))
  obtain ⟨cY, y1, y2⟩ := ws_arr2 (hts (.arrayOver (.array .int)) (by decide +kernel))
  obtain ⟨cS, s1, s2⟩ := ws_arrO (C := "HedgeReader$State") (hts _ (by decide +kernel))
  obtain ⟨cH, g1, g2⟩ := ws_arrO (C := "HedgeReader$Shelf") (hts _ (by decide +kernel))
  obtain ⟨v, hv, hvr⟩ := Cond.isRef_spec (hs (.isRef (.static "jdk/internal/util/Preconditions" "SIOOBE_FORMATTER" "Ljava/util/function/BiFunction;")) (by decide +kernel))
  have hvr : v = .null ∨ ∃ q : Nat, v = .ref q := by
    cases v <;> first | exact Or.inl rfl | exact Or.inr ⟨_, rfl⟩ | cases hvr
  refine ⟨(fun k => (f k).1, fun k => (f k).2), fun k => if k = 100 then cI else if k = 101 then cZ else if k = 102 then cY else if k = 103 then cS else cH, adK, adV, ⟨fun k q h => hf k q h, fun k q h => ?_⟩, ⟨fun q hq => ?_, ⟨va_AO.of (hts (.arrayOver (.object "HedgeReader$State")) (by decide +kernel)), va_AO.of (hts (.arrayOver (.object "HedgeReader$Shelf")) (by decide +kernel)), (show mx_AO (.array .int) s from hts (.arrayOver (.array .int)) (by decide +kernel))⟩, fun q hq => ?_⟩, hV, va_Zof (hts (.laysStatic "java/lang/String" "COMPACT_STRINGS" "Z") (by decide +kernel)) (hts (.initialized "java/lang/String") (by decide +kernel)) (va_eqi (hs (.eq (.static "java/lang/String" "COMPACT_STRINGS" "Z") (.int 1)) (by decide +kernel))) hA, v, hvr, va_Zof (hts (.laysStatic "jdk/internal/util/Preconditions" "SIOOBE_FORMATTER" "Ljava/util/function/BiFunction;") (by decide +kernel)) (hts (.initialized "jdk/internal/util/Preconditions") (by decide +kernel)) hv hA⟩
  · match k, h with
    | 0, h => cases h; exact ⟨i1, i2⟩
    | 1, h => cases h; exact ⟨z1, z2⟩
    | 2, h => cases h; exact ⟨y1, y2⟩
    | 3, h => cases h; exact ⟨s1, s2⟩
    | 4, h => cases h; exact ⟨g1, g2⟩
    | n + 5, h => cases h
  · have hq : q = (2, 17, 170, 259) ∨ q = (8, 11, 177, 84) ∨ q = (8, 27, 148, 142) ∨ q = (8, 34, 170, 219) ∨ q = (8, 56, 167, 273) ∨ q = (8, 63, 188, 294) ∨ q = (8, 74, 162, 330) := by simpa [mx_nl] using hq
    rcases hq with rfl | rfl | rfl | rfl | rfl | rfl | rfl <;> exact va_Nw.of rfl (hts _ (by decide +kernel))
  · have hq : q = (0, 78, 0, 417) ∨ q = (0, 84, 1, 470) ∨ q = (0, 86, 2, 471) ∨ q = (0, 88, 3, 472) ∨ q = (0, 90, 4, 473) ∨ q = (0, 92, 5, 474) ∨ q = (0, 94, 6, 475) ∨ q = (0, 96, 7, 476) := by simpa [mx_sr] using hq
    rcases hq with rfl | rfl | rfl | rfl | rfl | rfl | rfl | rfl
    · exact vk_R.of (hts _ (by decide +kernel)) (hT 0 (by decide))
    · exact vk_R.of (hts _ (by decide +kernel)) (hT 1 (by decide))
    · exact vk_R.of (hts _ (by decide +kernel)) (hT 2 (by decide))
    · exact vk_R.of (hts _ (by decide +kernel)) (hT 3 (by decide))
    · exact vk_R.of (hts _ (by decide +kernel)) (hT 4 (by decide))
    · exact vk_R.of (hts _ (by decide +kernel)) (hT 5 (by decide))
    · exact vk_R.of (hts _ (by decide +kernel)) (hT 6 (by decide))
    · exact vk_R.of (hts _ (by decide +kernel)) (hT 7 (by decide))
