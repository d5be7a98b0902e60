theorem jd_fin : ∀ j, j < 8 → ∀ k, k < (mx_st.getD j "").length → (¬ Int32.ofInt (k : Int) < 0 ∧ Int32.ofInt (k : Int) < Int32.ofNat (mx_len8.getD j 0)) ∧ (¬ (Int32.ofInt (k : Int) < 0 ∨ mx_len8.getD j 0 ≤ (Int32.ofInt (k : Int)).toNatClampNeg)) ∧ (((mx_byt8.getD j []).getD (Int32.ofInt (k : Int)).toNatClampNeg 0 &&& 255).toUInt32 % 65536).toInt32 = Int32.ofInt ((((mx_st.getD j "").toList.getD k 'a').toNat : Nat) : Int) ∧ (Int32.ofInt ((((mx_st.getD j "").toList.getD k 'a').toNat : Nat) : Int)).toUInt32.toUInt16.toUInt32.toInt32 = Int32.ofInt ((((mx_st.getD j "").toList.getD k 'a').toNat : Nat) : Int) := by decide +kernel
theorem jd_nar : ∀ j, j < 8 → ∀ k, k < (mx_st.getD j "").length → narrow .char (.int (Int32.ofInt ((((mx_st.getD j "").toList.getD k 'a').toNat : Nat) : Int))) = .int (Int32.ofInt ((((mx_st.getD j "").toList.getD k 'a').toNat : Nat) : Int)) := by decide +kernel
theorem jd_shr : ∀ j, j < 8 → Int32.ofNat (mx_len8.getD j 0) >>> ((0 : Int32) &&& 31) = Int32.ofInt ((mx_st.getD j "").length : Int) := by decide +kernel
section
variable {D : va_G} {cA : Nat → ClassId} {base b : Nat} {adK adV : Nat → Nat} {w0 : Int → Int}
theorem jd_l1 {mm : mx_M} {j k : Nat} (hj : j < 8) (hk : k < (mx_st.getD j "").length) : jd_Con D cA base b adK adV w0 2 80 ⟨"java/lang/StringLatin1", "charAt", "([BI)C"⟩ prog_17_method_2_code 2 .char [.ref (adV j), .int (Int32.ofInt (k : Int))] mm (Int32.ofInt ((((mx_st.getD j "").toList.getD k 'a').toNat : Nat) : Int)) := by
  obtain ⟨⟨f0, f1⟩, f2, f3, -⟩ := jd_fin j hj k hk
  intro l
  refine Met.ofW (cc := prog_17_method_2_code) (maxL := 2) (ret := (some .char)) (by decide) rfl ?_
  intro p e s m args below meth c s₁ B hml hv
  obtain ⟨rfl, hP, hK, hE, hSt⟩ := hv
  have hx := B.exec
  have hb := B.bytes
  have hr := B.returns
  have hts0 := atoms_spec (ws := Cond.code ⟨"java/lang/StringLatin1", "charAt", "([BI)C"⟩ prog_17_method_2_code 2 (some .char) :: mx_gw) B.pre
  have hts : ∀ w ∈ mx_gw, w.before ([.ref (adV j), .int (Int32.ofInt (k : Int))] : List Value).toArray s = true := fun w h => hts0 w (List.mem_cons_of_mem _ h)
  have hown : s.vm.findClass "java/lang/StringLatin1" = some m.cls := findClass_of_methodNamed B.named
  have hlocks := B.notSynchronized
  have hS : va_S (fun q => base ≤ q) s.heap s.heap [] := va_S.rf
  have hl := lv_entry [.ref (adV j), .int (Int32.ofInt (k : Int))] (n := 2) (Nat.le_of_ble_eq_true rfl)
  rw [lg_entry_eq]
  generalize (lg_sl [.ref (adV j), .int (Int32.ofInt (k : Int))] ++ List.replicate (2 - (lg_sl [.ref (adV j), .int (Int32.ofInt (k : Int))]).length) Slot.unset).toArray = ls at hl ⊢
  have hl : lv_has ls 2 [(0, .ref (adV j)), (1, .int (Int32.ofInt (k : Int)))] := hl
  have hUU : ∀ U : State, U.heap = s.heap → s.WarmedH U.vm → mx_U D cA base b adK adV w0 mm U := fun U hU hW => ⟨by rw [hU]; exact hP, va_K.moved hW.alike hK, mx_E.warm hW hE, mx_St.moved hW.alike (by rw [hU]; exact hSt.kept hS.2.1)⟩
  refine lv_iload_n hx hb (show decode prog_17_method_2_code 0 = .ok (.iload_n 1, 1) by decide +kernel) rfl (lv_at hl 1 rfl) ?_
  refine lv_aload_n hx hb (show decode prog_17_method_2_code 1 = .ok (.aload_n 0, 1) by decide +kernel) rfl (lv_at hl 0 rfl) ?_
  refine va_tlen hx hb (hSt.1.1 j hj).2.2.2 hS (v := Int32.ofNat (mx_len8.getD j 0)) rfl (show decode prog_17_method_2_code 2 = .ok (.arraylength, 1) by decide +kernel) ?_
  refine va_callv (va_runS (n := 2) (As := [.int (Int32.ofInt (k : Int)), .int (Int32.ofNat (mx_len8.getD j 0))]) (bytes := prog_16_method_155_code) (maxL := 2) (ret := none) (rest := []) ⟨hx, hb, hml, hown, hts⟩ (jd_ck f0 f1 l)
    ⟨⟨rfl, rfl, Nat.le_refl _, Nat.le_of_ble_eq_true rfl, pay_in hts (jd_wsg (w0 := Cond.code ⟨"java/lang/String", "checkIndex", "(II)V"⟩ prog_16_method_155_code 2 none) (by decide +kernel)), List.mem_cons_self, (hts (Cond.code ⟨"java/lang/String", "checkIndex", "(II)V"⟩ prog_16_method_155_code 2 none) (jg (by decide +kernel))), (hts (Cond.initialized "java/lang/String") (jg (by decide +kernel))), ⟨by decide, by decide⟩, fun sig hsig => jd_sig (n := 2) (by decide +kernel) hsig, (hts (Cond.methodLink "java/lang/StringLatin1" 9 ⟨"java/lang/String", "checkIndex", "(II)V"⟩) (jg (by decide +kernel)))⟩, (hts (Cond.static ⟨"java/lang/String", "checkIndex", "(II)V"⟩) (jg (by decide +kernel)))⟩
    ⟨mx_blind, fun U hU hW => ⟨rfl, hUU U hU hW⟩⟩ rfl rfl hl.1 rfl (lv_room (by decide)) (show decode prog_17_method_2_code 3 = .ok (.invokestatic 9, 3) by decide +kernel) ⟨Nat.zero_le _, Nat.zero_le _⟩) hS (fun q _ h => h) (fun q h => h) (fun u t H1 locs1 ht hvm hw hB _ _ hS1 => ?_)
  obtain rfl := hw
  refine lv_aload_n hx hb (show decode prog_17_method_2_code 6 = .ok (.aload_n 0, 1) by decide +kernel) rfl (lv_at hl 0 rfl) ?_
  refine lv_iload_n hx hb (show decode prog_17_method_2_code 7 = .ok (.iload_n 1, 1) by decide +kernel) rfl (lv_at hl 1 rfl) ?_
  refine va_tb hx hb (hSt.1.1 j hj).2.2.2 hS1 f2 rfl (show decode prog_17_method_2_code 8 = .ok (.baload, 1) by decide +kernel) ?_
  refine lv_sipush hx hb (show decode prog_17_method_2_code 9 = .ok (.sipush 255, 3) by decide +kernel) (v := 255) (by decide) ?_
  refine lv_iand hx hb (show decode prog_17_method_2_code 12 = .ok (.iand, 1) by decide +kernel) ?_
  refine lv_i2c hx hb (show decode prog_17_method_2_code 13 = .ok (.i2c, 1) by decide +kernel) f3 ?_
  exact W.zret (v := (Int32.ofInt ((((mx_st.getD j "").toList.getD k 'a').toNat : Nat) : Int))) hx hb hr (jd_nar j hj k hk) (fun t2 ht2 hW => ⟨⟨(Int32.ofInt ((((mx_st.getD j "").toList.getD k 'a').toNat : Nat) : Int)), u, rfl, ⟨rfl, rfl⟩, by show mx_P D cA base b adK w0 u t2.heap; rw [ht2, ← ht]; exact hB⟩, hS1.F ht2⟩) hS1.2.2 (show decode prog_17_method_2_code 14 = .ok (.ireturn, 1) by decide +kernel) hlocks
theorem jd_len {mm : mx_M} {Q : mx_Q} {d j : Nat} (hj : j < 8) (hQ : Q (some (.inl (((mx_st.getD j "").length : Int)))) mm) (l : Launch) : Met l ⟨"java/lang/String", "length", "()I"⟩ (Cond.code ⟨"java/lang/String", "length", "()I"⟩ prog_16_method_54_code 1 (some .int) :: mx_gw) ({ frames := d + 1, cells := mm.2.2.2.1, slots := mm.2.2.2.2, locals := 36 * (d + 1) }) (va_Pc [.ref (adK j)] (mx_U D cA base b adK adV w0 mm)) (va_Qi (fun r u => ∃ e : Int, r = Int32.ofInt e ∧ Q (some (.inl e)) u) (fun u t => mx_P D cA base b adK w0 u t.heap) (fun q => base ≤ q)) mm.2.2.2.1 mm.2.2.2.2 (fun q => base ≤ q) := by
  refine Met.ofW (cc := prog_16_method_54_code) (maxL := 1) (ret := (some .int)) (by decide) rfl ?_
  intro p e s m args below meth c s₁ B hml hv
  obtain ⟨rfl, hP, hK, hE, hSt⟩ := hv
  have hx := B.exec
  have hb := B.bytes
  have hr := B.returns
  have hts0 := atoms_spec (ws := Cond.code ⟨"java/lang/String", "length", "()I"⟩ prog_16_method_54_code 1 (some .int) :: mx_gw) B.pre
  have hts : ∀ w ∈ mx_gw, w.before ([.ref (adK j)] : List Value).toArray s = true := fun w h => hts0 w (List.mem_cons_of_mem _ h)
  have hown : s.vm.findClass "java/lang/String" = some m.cls := findClass_of_methodNamed B.named
  have hlocks := B.notSynchronized
  have hS : va_S (fun q => base ≤ q) s.heap s.heap [] := va_S.rf
  have hl := lv_entry [.ref (adK j)] (n := 1) (Nat.le_of_ble_eq_true rfl)
  rw [lg_entry_eq]
  generalize (lg_sl [.ref (adK j)] ++ List.replicate (1 - (lg_sl [.ref (adK j)]).length) Slot.unset).toArray = ls at hl ⊢
  have hl : lv_has ls 1 [(0, .ref (adK j))] := hl
  have hUU : ∀ U : State, U.heap = s.heap → s.WarmedH U.vm → mx_U D cA base b adK adV w0 mm U := fun U hU hW => ⟨by rw [hU]; exact hP, va_K.moved hW.alike hK, mx_E.warm hW hE, mx_St.moved hW.alike (by rw [hU]; exact hSt.kept hS.2.1)⟩
  refine lv_aload_n hx hb (show decode prog_16_method_54_code 0 = .ok (.aload_n 0, 1) by decide +kernel) rfl (lv_at hl 0 rfl) ?_
  refine vk_getf hx hb (hSt.1.1 j hj).2.2.1 hS hown (hts (.fieldLink "java/lang/String" 9 "java/lang/String" "value" "[B") (jg (by decide +kernel))) (fun _ h => h) (show decode prog_16_method_54_code 1 = .ok (.getfield 9, 3) by decide +kernel) ?_
  refine va_tlen hx hb (hSt.1.1 j hj).2.2.2 hS (v := Int32.ofNat (mx_len8.getD j 0)) rfl (show decode prog_16_method_54_code 4 = .ok (.arraylength, 1) by decide +kernel) ?_
  refine lv_aload_n hx hb (show decode prog_16_method_54_code 5 = .ok (.aload_n 0, 1) by decide +kernel) rfl (lv_at hl 0 rfl) ?_
  refine va_calli (va_runV (n := 0) (As := []) (b := adK j) (C := "java/lang/String") (bytes := prog_16_method_152_code) (maxL := 1) (ret := some .byte) (rest := [.int (Int32.ofNat (mx_len8.getD j 0))]) ⟨hx, hb, hml, hown, hts⟩ (jd_coder hj l)
    ⟨⟨rfl, rfl, (by show 0 + 1 ≤ d + 1; omega), (by show 8 + (1 + 11) + 0 ≤ 36 * (d + 1); omega), pay_in hts (jd_wsg (w0 := Cond.code ⟨"java/lang/String", "coder", "()B"⟩ prog_16_method_152_code 1 (some .byte)) (by decide +kernel)), List.mem_cons_self, (hts (Cond.code ⟨"java/lang/String", "coder", "()B"⟩ prog_16_method_152_code 1 (some .byte)) (jg (by decide +kernel))), (hts (Cond.initialized "java/lang/String") (jg (by decide +kernel))), ⟨by decide, by decide⟩, fun sig hsig => jd_sig (n := 0) (by decide +kernel) hsig, (hts (Cond.methodLink "java/lang/String" 335 ⟨"java/lang/String", "coder", "()B"⟩) (jg (by decide +kernel)))⟩, (hts (Cond.instanceMethod ⟨"java/lang/String", "coder", "()B"⟩) (jg (by decide +kernel))), (hts (Cond.selects "java/lang/String" ⟨"java/lang/String", "coder", "()B"⟩ ⟨"java/lang/String", "coder", "()B"⟩) (jg (by decide +kernel)))⟩
    ⟨mx_blind, vk_recv hSt.1 hj hS, fun U hU hW => ⟨rfl, hUU U hU hW⟩⟩ rfl rfl hl.1 rfl (lv_room (show (1 + 0 : Nat) ≤ 8 by decide)) (show decode prog_16_method_54_code 6 = .ok (.invokevirtual 335, 3) by decide +kernel) ⟨Nat.zero_le _, Nat.zero_le _⟩) hS (fun q _ h => h) (fun q h => h) (fun r u t H1 locs1 ht hvm hw hB _ _ hS1 => ?_)
  obtain ⟨rfl, rfl⟩ := hw
  refine lv_ishr hx hb (show decode prog_16_method_54_code 9 = .ok (.ishr, 1) by decide +kernel) ?_
  refine lv_topi (fun v hv => ?_)
  obtain rfl : v = Int32.ofInt ((mx_st.getD j "").length : Int) := hv.trans (jd_shr j hj)
  refine W.widen (k := u.2.2.2.1) (n := u.2.2.2.2) (Nat.zero_le _) (Nat.zero_le _) ?_
  exact W.zret hx hb hr rfl (fun t2 ht2 hW => ⟨⟨Int32.ofInt ((mx_st.getD j "").length : Int), u, rfl, ⟨((mx_st.getD j "").length : Int), rfl, hQ⟩, by show mx_P D cA base b adK w0 u t2.heap; rw [ht2, ← ht]; exact hB⟩, hS1.F ht2⟩) hS1.2.2 (show decode prog_16_method_54_code 10 = .ok (.ireturn, 1) by decide +kernel) hlocks
theorem jd_chr {mm : mx_M} {Q : mx_Q} {d j k : Nat} (hj : j < 8) (hk : k < (mx_st.getD j "").length) (hd : 4 ≤ d) (hQ : Q (some (.inl (((((mx_st.getD j "").toList.getD k 'a').toNat : Nat) : Int)))) mm) (l : Launch) : Met l ⟨"java/lang/String", "charAt", "(I)C"⟩ (Cond.code ⟨"java/lang/String", "charAt", "(I)C"⟩ prog_16_method_56_code 2 (some .char) :: mx_gw) ({ frames := d + 1, cells := mm.2.2.2.1, slots := mm.2.2.2.2, locals := 36 * (d + 1) }) (va_Pc [.ref (adK j), .int (Int32.ofInt (k : Int))] (mx_U D cA base b adK adV w0 mm)) (va_Qi (fun r u => ∃ e : Int, r = Int32.ofInt e ∧ Q (some (.inl e)) u) (fun u t => mx_P D cA base b adK w0 u t.heap) (fun q => base ≤ q)) mm.2.2.2.1 mm.2.2.2.2 (fun q => base ≤ q) := by
  refine Met.ofW (cc := prog_16_method_56_code) (maxL := 2) (ret := (some .char)) (by decide) rfl ?_
  intro p e s m args below meth c s₁ B hml hv
  obtain ⟨rfl, hP, hK, hE, hSt⟩ := hv
  have hx := B.exec
  have hb := B.bytes
  have hr := B.returns
  have hts0 := atoms_spec (ws := Cond.code ⟨"java/lang/String", "charAt", "(I)C"⟩ prog_16_method_56_code 2 (some .char) :: mx_gw) B.pre
  have hts : ∀ w ∈ mx_gw, w.before ([.ref (adK j), .int (Int32.ofInt (k : Int))] : List Value).toArray s = true := fun w h => hts0 w (List.mem_cons_of_mem _ h)
  have hown : s.vm.findClass "java/lang/String" = some m.cls := findClass_of_methodNamed B.named
  have hlocks := B.notSynchronized
  have hS : va_S (fun q => base ≤ q) s.heap s.heap [] := va_S.rf
  have hl := lv_entry [.ref (adK j), .int (Int32.ofInt (k : Int))] (n := 2) (Nat.le_of_ble_eq_true rfl)
  rw [lg_entry_eq]
  generalize (lg_sl [.ref (adK j), .int (Int32.ofInt (k : Int))] ++ List.replicate (2 - (lg_sl [.ref (adK j), .int (Int32.ofInt (k : Int))]).length) Slot.unset).toArray = ls at hl ⊢
  have hl : lv_has ls 2 [(0, .ref (adK j)), (1, .int (Int32.ofInt (k : Int)))] := hl
  have hUU : ∀ U : State, U.heap = s.heap → s.WarmedH U.vm → mx_U D cA base b adK adV w0 mm U := fun U hU hW => ⟨by rw [hU]; exact hP, va_K.moved hW.alike hK, mx_E.warm hW hE, mx_St.moved hW.alike (by rw [hU]; exact hSt.kept hS.2.1)⟩
  refine lv_aload_n hx hb (show decode prog_16_method_56_code 0 = .ok (.aload_n 0, 1) by decide +kernel) rfl (lv_at hl 0 rfl) ?_
  refine va_calli (va_runV (n := 0) (As := []) (b := adK j) (C := "java/lang/String") (bytes := prog_16_method_154_code) (maxL := 1) (ret := some .boolean) (rest := []) ⟨hx, hb, hml, hown, hts⟩ (jd_lat hj l)
    ⟨⟨rfl, rfl, (by show 0 + 1 ≤ d + 1; omega), (by show 8 + (1 + 11) + 0 ≤ 36 * (d + 1); omega), pay_in hts (jd_wsg (w0 := Cond.code ⟨"java/lang/String", "isLatin1", "()Z"⟩ prog_16_method_154_code 1 (some .boolean)) (by decide +kernel)), List.mem_cons_self, (hts (Cond.code ⟨"java/lang/String", "isLatin1", "()Z"⟩ prog_16_method_154_code 1 (some .boolean)) (jg (by decide +kernel))), (hts (Cond.initialized "java/lang/String") (jg (by decide +kernel))), ⟨by decide, by decide⟩, fun sig hsig => jd_sig (n := 0) (by decide +kernel) hsig, (hts (Cond.methodLink "java/lang/String" 492 ⟨"java/lang/String", "isLatin1", "()Z"⟩) (jg (by decide +kernel)))⟩, (hts (Cond.instanceMethod ⟨"java/lang/String", "isLatin1", "()Z"⟩) (jg (by decide +kernel))), (hts (Cond.selects "java/lang/String" ⟨"java/lang/String", "isLatin1", "()Z"⟩ ⟨"java/lang/String", "isLatin1", "()Z"⟩) (jg (by decide +kernel)))⟩
    ⟨mx_blind, vk_recv hSt.1 hj hS, fun U hU hW => ⟨rfl, hUU U hU hW⟩⟩ rfl rfl hl.1 rfl (lv_room (by decide)) (show decode prog_16_method_56_code 1 = .ok (.invokevirtual 492, 3) by decide +kernel) ⟨Nat.zero_le _, Nat.zero_le _⟩) hS (fun q _ h => h) (fun q h => h) (fun r u t H1 locs1 ht hvm hw hB _ _ hS1 => ?_)
  obtain ⟨rfl, rfl⟩ := hw
  have hP1 : mx_P D cA base b adK w0 u H1 := by rw [← ht]; exact hB
  have hUU1 : ∀ U : State, U.heap = H1 → s.WarmedH U.vm → mx_U D cA base b adK adV w0 u U := fun U hU hW => ⟨by rw [hU]; exact hP1, va_K.moved hW.alike hK, mx_E.warm hW hE, mx_St.moved hW.alike (by rw [hU]; exact hSt.kept hS1.2.1)⟩
  refine lv_if_eq (tgt := 16) hx hb (show decode prog_16_method_56_code 4 = .ok (.ifCond .eq 12, 3) by decide +kernel) (by decide) (fun q => absurd q (by decide)) (fun _ => ?_)
  refine lv_aload_n hx hb (show decode prog_16_method_56_code 7 = .ok (.aload_n 0, 1) by decide +kernel) rfl (lv_at hl 0 rfl) ?_
  refine vk_getf hx hb (hSt.1.1 j hj).2.2.1 hS1 hown (hts (.fieldLink "java/lang/String" 9 "java/lang/String" "value" "[B") (jg (by decide +kernel))) (fun _ h => h) (show decode prog_16_method_56_code 8 = .ok (.getfield 9, 3) by decide +kernel) ?_
  refine lv_iload_n hx hb (show decode prog_16_method_56_code 11 = .ok (.iload_n 1, 1) by decide +kernel) rfl (lv_at hl 1 rfl) ?_
  refine va_calli (va_runS (n := 2) (As := [.ref (adV j), .int (Int32.ofInt (k : Int))]) (bytes := prog_17_method_2_code) (maxL := 2) (ret := some .char) (rest := []) ⟨hx, hb, hml, hown, hts⟩ (jd_l1 hj hk l)
    ⟨⟨rfl, rfl, (by show 2 + 1 ≤ d + 1; omega), (by show 8 + (2 + 11) + 80 ≤ 36 * (d + 1); omega), pay_in hts (jd_wsg (w0 := Cond.code ⟨"java/lang/StringLatin1", "charAt", "([BI)C"⟩ prog_17_method_2_code 2 (some .char)) (by decide +kernel)), List.mem_cons_self, (hts (Cond.code ⟨"java/lang/StringLatin1", "charAt", "([BI)C"⟩ prog_17_method_2_code 2 (some .char)) (jg (by decide +kernel))), (hts (Cond.initialized "java/lang/StringLatin1") (jg (by decide +kernel))), ⟨by decide, by decide⟩, fun sig hsig => jd_sig (n := 2) (by decide +kernel) hsig, (hts (Cond.methodLink "java/lang/String" 495 ⟨"java/lang/StringLatin1", "charAt", "([BI)C"⟩) (jg (by decide +kernel)))⟩, (hts (Cond.static ⟨"java/lang/StringLatin1", "charAt", "([BI)C"⟩) (jg (by decide +kernel)))⟩
    ⟨mx_blind, fun U hU hW => ⟨rfl, hUU1 U hU hW⟩⟩ rfl rfl hl.1 rfl (lv_room (by decide)) (show decode prog_16_method_56_code 12 = .ok (.invokestatic 495, 3) by decide +kernel) ⟨Nat.zero_le _, Nat.zero_le _⟩) hS1 (fun q _ h => h) (fun q h => h) (fun r u2 t3 H2 locs2 ht3 hvm3 hw3 hB3 _ _ hS2 => ?_)
  obtain ⟨rfl, rfl⟩ := hw3
  refine W.widen (k := u2.2.2.2.1) (n := u2.2.2.2.2) (Nat.zero_le _) (Nat.zero_le _) ?_
  exact W.zret hx hb hr (jd_nar j hj k hk) (fun t2 ht2 hW => ⟨⟨(Int32.ofInt ((((mx_st.getD j "").toList.getD k 'a').toNat : Nat) : Int)), u2, rfl, ⟨((((mx_st.getD j "").toList.getD k 'a').toNat : Nat) : Int), rfl, hQ⟩, by show mx_P D cA base b adK w0 u2 t2.heap; rw [ht2, ← ht3]; exact hB3⟩, hS2.F ht2⟩) hS2.2.2 (show decode prog_16_method_56_code 15 = .ok (.ireturn, 1) by decide +kernel) hlocks
theorem cv_lit (j : Nat) : mx_cv base b adK (.inr (.inr (-3 - (j : Int)))) = .ref (adK j) := by
  show (if _ then _ else _ : Value) = _
  rw [if_neg (by omega), if_neg (by omega), if_neg (by omega)]
  congr 2
  omega
theorem h300 (d j : Nat) (mm : mx_M) (Q : mx_Q) (hj : j < 8) (hQ : Q (some (.inl ((mx_st.getD j "").length : Int))) mm) : mx_Con D cA base b adK adV w0 (d + 1) 300 [.inr (.inr (-3 - (j : Int)))] mm Q := fun l => by
  have h := jd_len (D := D) (cA := cA) (base := base) (b := b) (adK := adK) (adV := adV) (w0 := w0) (d := d) hj hQ l
  rw [← cv_lit (base := base) (b := b) j] at h
  exact h
theorem h301 (d j k : Nat) (mm : mx_M) (Q : mx_Q) (hd : 4 ≤ d) (hj : j < 8) (hk : k < (mx_st.getD j "").length) (hQ : Q (some (.inl ((((mx_st.getD j "").toList.getD k 'a').toNat : Nat) : Int))) mm) : mx_Con D cA base b adK adV w0 (d + 1) 301 [.inr (.inr (-3 - (j : Int))), .inl (k : Int)] mm Q := fun l => by
  have h := jd_chr (D := D) (cA := cA) (base := base) (b := b) (adK := adK) (adV := adV) (w0 := w0) (d := d) hj hk hd hQ l
  rw [← cv_lit (base := base) (b := b) j] at h
  exact h
end
