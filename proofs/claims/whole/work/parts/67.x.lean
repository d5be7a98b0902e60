/-! JDK: length and charAt of the literals -/
theorem jg {w : Cond} (h : (decide (w ∈ lw_tbl) && goodWord w) = true) : w ∈ mx_gw := by
  obtain ⟨h1, h2⟩ := Bool.and_eq_true_iff.mp h
  exact mx_good ⟨of_decide_eq_true h1, h2⟩
theorem jd_wsg {w0 : Cond} (h : (decide (w0 ∈ lw_tbl) && goodWord w0) = true) : GoodIn mx_gw (w0 :: mx_gw) := fun w hw => by
  have q := mx_gw_mem (jg h)
  rcases List.mem_cons.mp hw with rfl | hw
  · exact ⟨jg h, good_of_word q.2⟩
  · exact ⟨hw, good_of_word (mx_gw_mem hw).2⟩
theorem jd_sig {n : Nat} {ds : String} {sig : MethodDescriptor} (h : (parseMethodDescriptor ds).map (fun d => d.parameters.length) = some n) (hs : parseMethodDescriptor ds = some sig) : n = sig.parameters.length := by
  rw [hs] at h
  exact (Option.some.inj h).symm
section
variable {D : va_G} {cA : Nat → ClassId} {base b : Nat} {adK adV : Nat → Nat} {w0 : Int → Int}
def jd_Con (D : va_G) (cA : Nat → ClassId) (base b : Nat) (adK adV : Nat → Nat) (w0 : Int → Int) (fr lo : Nat) (y : MethodName) (cc : ByteArray) (maxL : Nat) (ft : FieldType) (av : List Value) (mm : mx_M) (r0 : Int32) : Prop := ∀ l : Launch, Met l y (Cond.code y cc maxL (some ft) :: mx_gw) ({ frames := fr, cells := 0, slots := 0, locals := lo }) (va_Pc av (mx_U D cA base b adK adV w0 mm)) (va_Qi (fun r (u : mx_M) => r = r0 ∧ u = mm) (fun u t => mx_P D cA base b adK w0 u t.heap) (fun q => base ≤ q)) 0 0 (fun q => base ≤ q)
def jd_ConV (D : va_G) (cA : Nat → ClassId) (base b : Nat) (adK adV : Nat → Nat) (w0 : Int → Int) (fr lo : Nat) (y : MethodName) (cc : ByteArray) (maxL : Nat) (av : List Value) (mm : mx_M) : Prop := ∀ l : Launch, Met l y (Cond.code y cc maxL none :: mx_gw) ({ frames := fr, cells := 0, slots := 0, locals := lo }) (va_Pc av (mx_U D cA base b adK adV w0 mm)) (va_Qv (fun (u : mx_M) => u = mm) (fun u t => mx_P D cA base b adK w0 u t.heap) (fun q => base ≤ q)) 0 0 (fun q => base ≤ q)
theorem jd_coder {mm : mx_M} {j : Nat} (hj : j < 8) : jd_Con D cA base b adK adV w0 0 0 ⟨"java/lang/String", "coder", "()B"⟩ prog_16_method_152_code 1 .byte [.ref (adK j)] mm 0 := by
  intro l
  refine Met.ofW (cc := prog_16_method_152_code) (maxL := 1) (ret := (some .byte)) (by decide) rfl ?_
  intro p e s m args below meth c s₁ B hml hv
  obtain ⟨rfl, hP, hK, hE, hSt⟩ := hv
  have hx := B.exec
  have hb := B.bytes
  have hr := B.returns
  have hts0 := atoms_spec (ws := Cond.code ⟨"java/lang/String", "coder", "()B"⟩ prog_16_method_152_code 1 (some .byte) :: mx_gw) B.pre
  have hts : ∀ w ∈ mx_gw, w.before ([.ref (adK j)] : List Value).toArray s = true := fun w h => hts0 w (List.mem_cons_of_mem _ h)
  have hown : s.vm.findClass "java/lang/String" = some m.cls := findClass_of_methodNamed B.named
  have hlocks := B.notSynchronized
  have hS : va_S (fun q => base ≤ q) s.heap s.heap [] := va_S.rf
  have hl := lv_entry [.ref (adK j)] (n := 1) (Nat.le_of_ble_eq_true rfl)
  rw [lg_entry_eq]
  generalize (lg_sl [.ref (adK j)] ++ List.replicate (1 - (lg_sl [.ref (adK j)]).length) Slot.unset).toArray = ls at hl ⊢
  have hl : lv_has ls 1 [(0, .ref (adK j))] := hl
  refine va_gets hx hb hSt.2.1 hS hown (hts (.fieldLink "java/lang/String" 38 "java/lang/String" "COMPACT_STRINGS" "Z") (jg (by decide +kernel))) (fun _ h => h) (show decode prog_16_method_152_code 0 = .ok (.getstatic 38, 3) by decide +kernel) ?_
  refine lv_if_eq (tgt := 13) hx hb (show decode prog_16_method_152_code 3 = .ok (.ifCond .eq 10, 3) by decide +kernel) (by decide) (fun q => absurd q (by decide)) (fun _ => ?_)
  refine lv_aload_n hx hb (show decode prog_16_method_152_code 6 = .ok (.aload_n 0, 1) by decide +kernel) rfl (lv_at hl 0 rfl) ?_
  refine vk_getf hx hb (hSt.1.1 j hj).2.1 hS hown (hts (.fieldLink "java/lang/String" 15 "java/lang/String" "coder" "B") (jg (by decide +kernel))) (fun _ h => h) (show decode prog_16_method_152_code 7 = .ok (.getfield 15, 3) by decide +kernel) ?_
  refine lv_goto (tgt := 14) hx hb (show decode prog_16_method_152_code 10 = .ok (.goto 4, 3) by decide +kernel) (by decide) ?_
  exact W.zret (v := 0) hx hb hr rfl (fun t ht hW => ⟨⟨0, mm, rfl, ⟨rfl, rfl⟩, by show mx_P D cA base b adK w0 mm t.heap; rw [ht]; exact hP⟩, hS.F ht⟩) hS.2.2 (show decode prog_16_method_152_code 14 = .ok (.ireturn, 1) by decide +kernel) hlocks
theorem jd_lat {mm : mx_M} {j : Nat} (hj : j < 8) : jd_Con D cA base b adK adV w0 0 0 ⟨"java/lang/String", "isLatin1", "()Z"⟩ prog_16_method_154_code 1 .boolean [.ref (adK j)] mm 1 := by
  intro l
  refine Met.ofW (cc := prog_16_method_154_code) (maxL := 1) (ret := (some .boolean)) (by decide) rfl ?_
  intro p e s m args below meth c s₁ B hml hv
  obtain ⟨rfl, hP, hK, hE, hSt⟩ := hv
  have hx := B.exec
  have hb := B.bytes
  have hr := B.returns
  have hts0 := atoms_spec (ws := Cond.code ⟨"java/lang/String", "isLatin1", "()Z"⟩ prog_16_method_154_code 1 (some .boolean) :: mx_gw) B.pre
  have hts : ∀ w ∈ mx_gw, w.before ([.ref (adK j)] : List Value).toArray s = true := fun w h => hts0 w (List.mem_cons_of_mem _ h)
  have hown : s.vm.findClass "java/lang/String" = some m.cls := findClass_of_methodNamed B.named
  have hlocks := B.notSynchronized
  have hS : va_S (fun q => base ≤ q) s.heap s.heap [] := va_S.rf
  have hl := lv_entry [.ref (adK j)] (n := 1) (Nat.le_of_ble_eq_true rfl)
  rw [lg_entry_eq]
  generalize (lg_sl [.ref (adK j)] ++ List.replicate (1 - (lg_sl [.ref (adK j)]).length) Slot.unset).toArray = ls at hl ⊢
  have hl : lv_has ls 1 [(0, .ref (adK j))] := hl
  refine va_gets hx hb hSt.2.1 hS hown (hts (.fieldLink "java/lang/String" 38 "java/lang/String" "COMPACT_STRINGS" "Z") (jg (by decide +kernel))) (fun _ h => h) (show decode prog_16_method_154_code 0 = .ok (.getstatic 38, 3) by decide +kernel) ?_
  refine lv_if_eq (tgt := 17) hx hb (show decode prog_16_method_154_code 3 = .ok (.ifCond .eq 14, 3) by decide +kernel) (by decide) (fun q => absurd q (by decide)) (fun _ => ?_)
  refine lv_aload_n hx hb (show decode prog_16_method_154_code 6 = .ok (.aload_n 0, 1) by decide +kernel) rfl (lv_at hl 0 rfl) ?_
  refine vk_getf hx hb (hSt.1.1 j hj).2.1 hS hown (hts (.fieldLink "java/lang/String" 15 "java/lang/String" "coder" "B") (jg (by decide +kernel))) (fun _ h => h) (show decode prog_16_method_154_code 7 = .ok (.getfield 15, 3) by decide +kernel) ?_
  refine lv_if_ne (tgt := 17) hx hb (show decode prog_16_method_154_code 10 = .ok (.ifCond .ne 7, 3) by decide +kernel) (by decide) (fun q => absurd rfl q) (fun _ => ?_)
  refine lv_iconst hx hb (show decode prog_16_method_154_code 13 = .ok (.iconst 1, 1) by decide +kernel) (v := 1) rfl ?_
  refine lv_goto (tgt := 18) hx hb (show decode prog_16_method_154_code 14 = .ok (.goto 4, 3) by decide +kernel) (by decide) ?_
  exact W.zret (v := 1) hx hb hr rfl (fun t ht hW => ⟨⟨1, mm, rfl, ⟨rfl, rfl⟩, by show mx_P D cA base b adK w0 mm t.heap; rw [ht]; exact hP⟩, hS.F ht⟩) hS.2.2 (show decode prog_16_method_154_code 18 = .ok (.ireturn, 1) by decide +kernel) hlocks
theorem jd_pre_r {mm : mx_M} {k n : Int32} {q : Nat} (h0 : ¬ k < 0) (h1 : k < n) : jd_Con D cA base b adK adV w0 0 0 ⟨"jdk/internal/util/Preconditions", "checkIndex", "(IILjava/util/function/BiFunction;)I"⟩ prog_20_method_11_code 3 .int [.int k, .int n, .ref q] mm k := by
  intro l
  refine Met.ofW (cc := prog_20_method_11_code) (maxL := 3) (ret := (some .int)) (by decide) rfl ?_
  intro p e s m args below meth c s₁ B hml hv
  obtain ⟨rfl, hP, hK, hE, hSt⟩ := hv
  have hx := B.exec
  have hb := B.bytes
  have hr := B.returns
  have hts0 := atoms_spec (ws := Cond.code ⟨"jdk/internal/util/Preconditions", "checkIndex", "(IILjava/util/function/BiFunction;)I"⟩ prog_20_method_11_code 3 (some .int) :: mx_gw) B.pre
  have hts : ∀ w ∈ mx_gw, w.before ([.int k, .int n, .ref q] : List Value).toArray s = true := fun w h => hts0 w (List.mem_cons_of_mem _ h)
  have hown : s.vm.findClass "jdk/internal/util/Preconditions" = some m.cls := findClass_of_methodNamed B.named
  have hlocks := B.notSynchronized
  have hS : va_S (fun q => base ≤ q) s.heap s.heap [] := va_S.rf
  have hl := lv_entry [.int k, .int n, .ref q] (n := 3) (Nat.le_of_ble_eq_true rfl)
  rw [lg_entry_eq]
  generalize (lg_sl [.int k, .int n, .ref q] ++ List.replicate (3 - (lg_sl [.int k, .int n, .ref q]).length) Slot.unset).toArray = ls at hl ⊢
  have hl : lv_has ls 3 [(0, .int k), (1, .int n), (2, .ref q)] := hl
  refine lv_iload_n hx hb (show decode prog_20_method_11_code 0 = .ok (.iload_n 0, 1) by decide +kernel) rfl (lv_at hl 0 rfl) ?_
  refine lv_if_lt (tgt := 9) hx hb (show decode prog_20_method_11_code 1 = .ok (.ifCond .lt 8, 3) by decide +kernel) (by decide) (fun q => absurd q h0) (fun _ => ?_)
  refine lv_iload_n hx hb (show decode prog_20_method_11_code 4 = .ok (.iload_n 0, 1) by decide +kernel) rfl (lv_at hl 0 rfl) ?_
  refine lv_iload_n hx hb (show decode prog_20_method_11_code 5 = .ok (.iload_n 1, 1) by decide +kernel) rfl (lv_at hl 1 rfl) ?_
  refine lv_icmp_lt (tgt := 16) hx hb (show decode prog_20_method_11_code 6 = .ok (.if_icmp .lt 10, 3) by decide +kernel) (by decide) (fun _ => ?_) (fun q => absurd h1 q)
  refine lv_iload_n hx hb (show decode prog_20_method_11_code 16 = .ok (.iload_n 0, 1) by decide +kernel) rfl (lv_at hl 0 rfl) ?_
  exact W.zret (v := k) hx hb hr rfl (fun t ht hW => ⟨⟨k, mm, rfl, ⟨rfl, rfl⟩, by show mx_P D cA base b adK w0 mm t.heap; rw [ht]; exact hP⟩, hS.F ht⟩) hS.2.2 (show decode prog_20_method_11_code 17 = .ok (.ireturn, 1) by decide +kernel) hlocks
theorem jd_pre_n {mm : mx_M} {k n : Int32} (h0 : ¬ k < 0) (h1 : k < n) : jd_Con D cA base b adK adV w0 0 0 ⟨"jdk/internal/util/Preconditions", "checkIndex", "(IILjava/util/function/BiFunction;)I"⟩ prog_20_method_11_code 3 .int [.int k, .int n, .null] mm k := by
  intro l
  refine Met.ofW (cc := prog_20_method_11_code) (maxL := 3) (ret := (some .int)) (by decide) rfl ?_
  intro p e s m args below meth c s₁ B hml hv
  obtain ⟨rfl, hP, hK, hE, hSt⟩ := hv
  have hx := B.exec
  have hb := B.bytes
  have hr := B.returns
  have hts0 := atoms_spec (ws := Cond.code ⟨"jdk/internal/util/Preconditions", "checkIndex", "(IILjava/util/function/BiFunction;)I"⟩ prog_20_method_11_code 3 (some .int) :: mx_gw) B.pre
  have hts : ∀ w ∈ mx_gw, w.before ([.int k, .int n, .null] : List Value).toArray s = true := fun w h => hts0 w (List.mem_cons_of_mem _ h)
  have hown : s.vm.findClass "jdk/internal/util/Preconditions" = some m.cls := findClass_of_methodNamed B.named
  have hlocks := B.notSynchronized
  have hS : va_S (fun q => base ≤ q) s.heap s.heap [] := va_S.rf
  have hl := lv_entry [.int k, .int n, .null] (n := 3) (Nat.le_of_ble_eq_true rfl)
  rw [lg_entry_eq]
  generalize (lg_sl [.int k, .int n, .null] ++ List.replicate (3 - (lg_sl [.int k, .int n, .null]).length) Slot.unset).toArray = ls at hl ⊢
  have hl : lv_has ls 3 [(0, .int k), (1, .int n), (2, .null)] := hl
  refine lv_iload_n hx hb (show decode prog_20_method_11_code 0 = .ok (.iload_n 0, 1) by decide +kernel) rfl (lv_at hl 0 rfl) ?_
  refine lv_if_lt (tgt := 9) hx hb (show decode prog_20_method_11_code 1 = .ok (.ifCond .lt 8, 3) by decide +kernel) (by decide) (fun q => absurd q h0) (fun _ => ?_)
  refine lv_iload_n hx hb (show decode prog_20_method_11_code 4 = .ok (.iload_n 0, 1) by decide +kernel) rfl (lv_at hl 0 rfl) ?_
  refine lv_iload_n hx hb (show decode prog_20_method_11_code 5 = .ok (.iload_n 1, 1) by decide +kernel) rfl (lv_at hl 1 rfl) ?_
  refine lv_icmp_lt (tgt := 16) hx hb (show decode prog_20_method_11_code 6 = .ok (.if_icmp .lt 10, 3) by decide +kernel) (by decide) (fun _ => ?_) (fun q => absurd h1 q)
  refine lv_iload_n hx hb (show decode prog_20_method_11_code 16 = .ok (.iload_n 0, 1) by decide +kernel) rfl (lv_at hl 0 rfl) ?_
  exact W.zret (v := k) hx hb hr rfl (fun t ht hW => ⟨⟨k, mm, rfl, ⟨rfl, rfl⟩, by show mx_P D cA base b adK w0 mm t.heap; rw [ht]; exact hP⟩, hS.F ht⟩) hS.2.2 (show decode prog_20_method_11_code 17 = .ok (.ireturn, 1) by decide +kernel) hlocks
theorem jd_pre {mm : mx_M} {k n : Int32} {v : Value} (hv : v = .null ∨ ∃ q : Nat, v = .ref q) (h0 : ¬ k < 0) (h1 : k < n) : jd_Con D cA base b adK adV w0 0 0 ⟨"jdk/internal/util/Preconditions", "checkIndex", "(IILjava/util/function/BiFunction;)I"⟩ prog_20_method_11_code 3 .int [.int k, .int n, v] mm k := by
  rcases hv with rfl | ⟨q, rfl⟩
  · exact jd_pre_n h0 h1
  · exact jd_pre_r h0 h1
theorem jd_ck {mm : mx_M} {k n : Int32} (h0 : ¬ k < 0) (h1 : k < n) : jd_ConV D cA base b adK adV w0 1 40 ⟨"java/lang/String", "checkIndex", "(II)V"⟩ prog_16_method_155_code 2 [.int k, .int n] mm := by
  intro l
  refine Met.ofW (cc := prog_16_method_155_code) (maxL := 2) (ret := none) (by decide) rfl ?_
  intro p e s m args below meth c s₁ B hml hv
  obtain ⟨rfl, hP, hK, hE, hSt⟩ := hv
  have hx := B.exec
  have hb := B.bytes
  have hr := B.returns
  have hts0 := atoms_spec (ws := Cond.code ⟨"java/lang/String", "checkIndex", "(II)V"⟩ prog_16_method_155_code 2 none :: mx_gw) B.pre
  have hts : ∀ w ∈ mx_gw, w.before ([.int k, .int n] : List Value).toArray s = true := fun w h => hts0 w (List.mem_cons_of_mem _ h)
  have hown : s.vm.findClass "java/lang/String" = some m.cls := findClass_of_methodNamed B.named
  have hlocks := B.notSynchronized
  have hS : va_S (fun q => base ≤ q) s.heap s.heap [] := va_S.rf
  have hl := lv_entry [.int k, .int n] (n := 2) (Nat.le_of_ble_eq_true rfl)
  rw [lg_entry_eq]
  generalize (lg_sl [.int k, .int n] ++ List.replicate (2 - (lg_sl [.int k, .int n]).length) Slot.unset).toArray = ls at hl ⊢
  have hl : lv_has ls 2 [(0, .int k), (1, .int n)] := hl
  obtain ⟨v, hv, hZ⟩ := hSt.2.2
  have hUU : ∀ U : State, U.heap = s.heap → s.WarmedH U.vm → mx_U D cA base b adK adV w0 mm U := fun U hU hW => ⟨by rw [hU]; exact hP, va_K.moved hW.alike hK, mx_E.warm hW hE, mx_St.moved hW.alike (by rw [hU]; exact hSt.kept hS.2.1)⟩
  refine lv_iload_n hx hb (show decode prog_16_method_155_code 0 = .ok (.iload_n 0, 1) by decide +kernel) rfl (lv_at hl 0 rfl) ?_
  refine lv_iload_n hx hb (show decode prog_16_method_155_code 1 = .ok (.iload_n 1, 1) by decide +kernel) rfl (lv_at hl 1 rfl) ?_
  refine va_gets hx hb hZ hS hown (hts (.fieldLink "java/lang/String" 1053 "jdk/internal/util/Preconditions" "SIOOBE_FORMATTER" "Ljava/util/function/BiFunction;") (jg (by decide +kernel))) (fun _ h => h) (show decode prog_16_method_155_code 2 = .ok (.getstatic 1053, 3) by decide +kernel) ?_
  refine va_calli (va_runS (n := 3) (As := [.int k, .int n, v]) (bytes := prog_20_method_11_code) (maxL := 3) (ret := some .int) (rest := []) ⟨hx, hb, hml, hown, hts⟩ (jd_pre hv h0 h1 l)
    ⟨⟨rfl, rfl, Nat.le_refl _, Nat.le_of_ble_eq_true rfl, pay_in hts (jd_wsg (w0 := Cond.code ⟨"jdk/internal/util/Preconditions", "checkIndex", "(IILjava/util/function/BiFunction;)I"⟩ prog_20_method_11_code 3 (some .int)) (by decide +kernel)), List.mem_cons_self, (hts (Cond.code ⟨"jdk/internal/util/Preconditions", "checkIndex", "(IILjava/util/function/BiFunction;)I"⟩ prog_20_method_11_code 3 (some .int)) (jg (by decide +kernel))), (hts (Cond.initialized "jdk/internal/util/Preconditions") (jg (by decide +kernel))), ⟨by decide, by decide⟩, fun sig hsig => jd_sig (n := 3) (by decide +kernel) hsig, (hts (Cond.methodLink "java/lang/String" 1059 ⟨"jdk/internal/util/Preconditions", "checkIndex", "(IILjava/util/function/BiFunction;)I"⟩) (jg (by decide +kernel)))⟩, (hts (Cond.static ⟨"jdk/internal/util/Preconditions", "checkIndex", "(IILjava/util/function/BiFunction;)I"⟩) (jg (by decide +kernel)))⟩
    ⟨mx_blind, fun U hU hW => ⟨rfl, hUU U hU hW⟩⟩ rfl rfl hl.1 rfl (lv_room (by decide)) (show decode prog_16_method_155_code 5 = .ok (.invokestatic 1059, 3) by decide +kernel) ⟨Nat.zero_le _, Nat.zero_le _⟩) hS (fun q _ h => h) (fun q h => h) (fun r u t H1 locs1 ht hvm hw hB _ _ hS1 => ?_)
  obtain ⟨rfl, rfl⟩ := hw
  refine lv_pop hx hb (show decode prog_16_method_155_code 8 = .ok (.pop, 1) by decide +kernel) rfl ?_
  exact W.vret hx hb hr (fun t2 ht2 hW => ⟨⟨u, rfl, rfl, by show mx_P D cA base b adK w0 u t2.heap; rw [ht2, ← ht]; exact hB⟩, hS1.F ht2⟩) hS1.2.2 (show decode prog_16_method_155_code 9 = .ok (.return_, 1) by decide +kernel) hlocks
end
