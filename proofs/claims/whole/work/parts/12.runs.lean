/-! THE MACHINE IS SOUND, whole runs -/
section SNR
variable {p : Program} {l : Launch} {e : Env} {R : Room} {s : State} {m : MethodId} {args : Array Value} {below : List Frame} {meth : Method} {c : Code} {Qf : State → Prop} {D : va_G} {cA : Nat → ClassId} {base b : Nat} {adK adV : Nat → Nat} {w0 : Int → Int} {M mcT msT : Nat}
theorem mx_sn {ai : Instr} {n h : Nat} {z : Int} {x : mx_C} (hX : mx_X M p s m args meth c D cA base b adK adV w0) (hR : mcT ≤ R.cells ∧ msT ≤ R.slots ∧ 1 ≤ R.frames ∧ 36 ≤ R.locals) (hd0 : mx_dk M x.1 ai n z = true) (hp : (mx_nx ai n z h x).1.getD True) (hJ : mx_J p l e R s m args below meth c Qf D cA base b adK w0 M mcT msT (mx_nx ai n z h x).2) : mx_J p l e R s m args below meth c Qf D cA base b adK w0 M mcT msT x := by
  cases ai
  case iadd => exact mx_s_iadd hX hd0 hp hJ
  case isub => exact mx_s_isub hX hd0 hp hJ
  case imul => exact mx_s_imul hX hd0 hp hJ
  case iand => exact mx_s_iand hX hd0 hp hJ
  case ior => exact mx_s_ior hX hd0 hp hJ
  case ixor => exact mx_s_ixor hX hd0 hp hJ
  case ishl => exact mx_s_ishl hX hd0 hp hJ
  case ishr => exact mx_s_ishr hX hd0 hp hJ
  case iushr => exact mx_s_iushr hX hd0 hp hJ
  case idiv => exact mx_s_idiv hX hd0 hp hJ
  case irem => exact mx_s_irem hX hd0 hp hJ
  case ladd => exact mx_s_ladd hX hd0 hp hJ
  case lsub => exact mx_s_lsub hX hd0 hp hJ
  case lmul => exact mx_s_lmul hX hd0 hp hJ
  case ldiv => exact mx_s_ldiv hX hd0 hp hJ
  case lrem => exact mx_s_lrem hX hd0 hp hJ
  case lcmp => exact mx_s_lcmp hX hd0 hp hJ
  case i2l => exact mx_s_i2l hX hd0 hp hJ
  case l2i => exact mx_s_l2i hX hd0 hp hJ
  case i2b => exact mx_s_i2b hX hd0 hp hJ
  case i2s => exact mx_s_i2s hX hd0 hp hJ
  case iload k => exact mx_s_iload hX hd0 hp hJ
  case lload k => exact mx_s_lload hX hd0 hp hJ
  case aload k => exact mx_s_aload hX hd0 hp hJ
  case istore k => exact mx_s_istore hX hd0 hp hJ
  case lstore k => exact mx_s_lstore hX hd0 hp hJ
  case astore k => exact mx_s_astore hX hd0 hp hJ
  case iinc k d => exact mx_s_iinc hX hd0 hp hJ
  case iconst v => exact mx_s_iconst hX hd0 hp hJ
  case sipush v => exact mx_s_sipush hX hd0 hp hJ
  case ldc k => exact mx_s_ldc hX hd0 hp hJ
  case dup => exact mx_s_dup hX hd0 hp hJ
  case pop => exact mx_s_pop hX hd0 hp hJ
  case dup2 => exact mx_s_dup2 hX hd0 hp hJ
  case if_icmp k t => exact mx_s_icmp hX hd0 hp hJ
  case ifCond k t => exact mx_s_icond hX hd0 hp hJ
  case goto t => exact mx_s_goto hX hd0 hp hJ
  case getfield q => exact mx_s_getfield hX hd0 hp hJ
  case putfield q => exact mx_s_putfield hX hd0 hp hJ
  case putstatic q => exact mx_s_putstatic hX hd0 hp hJ
  case iaload => exact mx_s_iaload hX hd0 hp hJ
  case baload => exact mx_s_baload hX hd0 hp hJ
  case iastore => exact mx_s_iastore hX hd0 hp hJ
  case bastore => exact mx_s_bastore hX hd0 hp hJ
  case aaload => exact mx_s_aaload hX hd0 hp hJ
  case aastore => exact mx_s_aastore hX hd0 hp hJ
  case saload => exact mx_s_saload hX hd0 hp hJ
  case arraylength => exact mx_s_arraylength hX hd0 hp hJ
  case tableswitch d lo hi o => exact mx_s_tsw hX hd0 hp hJ
  case lookupswitch d ps => exact mx_s_lsw hX hd0 hp hJ
  case new q => exact mx_s_new hX hR hd0 hp hJ
  case newarray t => exact mx_s_newarray hX hR hd0 hp hJ
  case anewarray q => exact mx_s_anewarray hX hR hd0 hp hJ
  case multianewarray a b => exact mx_s_mul hX hR hd0 hp hJ
  case invokedynamic j =>
    by_cases j9 : j = 9
    · subst j9; exact mx_s_obj hX hR hd0 hp hJ
    by_cases j2 : j = 2
    · subst j2; exact mx_s_cpy hX hR hd0 hp hJ
    by_cases j3 : j = 3
    · subst j3; exact mx_s_min hX hR hd0 hp hJ
    by_cases j4 : j = 4
    · subst j4; exact mx_s_max hX hR hd0 hp hJ
    · exfalso
      have h9 : mx_nx (.invokedynamic j) n z h x = mx_no x := by
        unfold mx_nx
        split <;> first | (rename_i hh; cases hh; done) | rfl | (rename_i hh; injection hh with hh; omega)
      rw [h9] at hp
      exact hp
  all_goals exact False.elim hp
theorem mx_s_end {Q : mx_Q} {pc : Nat} {ai : Instr} {n : Nat} {z : Int} {ls : mx_L} {st : List mx_V} {mm : mx_M} (hX : mx_X M p s m args meth c D cA base b adK adV w0) (hlocks : meth.locks = false) (hr : meth.sig.returnType = (mx_row M).2.2.2.2.1) (hd0 : mx_dk M pc ai n z = true) (h : mx_end M ai st mm Q) :
    mx_J p l e R s m args below meth c (MQ below (mx_post (mx_row M).2.2.2.2.1 Q (fun u t => mx_P D cA base b adK w0 u t.heap) (fun q => base ≤ q)) args s mcT msT (fun q => base ≤ q)) D cA base b adK w0 M mcT msT (pc, ls, st, mm) := by
  obtain ⟨hx, hb, hml, hown, hts, hK, hbase, hE, hnm, hsc⟩ := hX
  intro H locs lsA cells slots h1 h2 h3 hl hP hS
  have h1 : cells + mm.2.2.2.1 = mcT := h1
  have h2 : slots + mm.2.2.2.2 = msT := h2
  have hP : mx_P D cA base b adK w0 mm H := hP
  refine W.widen (k := mcT) (n := msT) (by omega) (by omega) ?_
  cases ai
  case return_ =>
    obtain ⟨rfl, hret, hQ⟩ := h
    have hd := of_decide_eq_true (show decide _ = true from hd0)
    rw [hret] at hr ⊢
    exact W.vret hx hb hr (fun t ht hW => ⟨⟨mm, rfl, hQ, by show mx_P D cA base b adK w0 mm t.heap; rw [ht]; exact hP⟩, hS.F ht⟩) hS.2.2 (mx_Dok hd.2) hlocks
  case ireturn =>
    obtain ⟨e1, rfl, hret, hQ⟩ := h
    have hd := of_decide_eq_true (show decide _ = true from hd0)
    have hgo : ∀ ft : FieldType, narrow ft (.int (Int32.ofInt e1)) = .int (Int32.ofInt e1) → (mx_row M).2.2.2.2.1 = some ft → ft ≠ .long → W p l e R s m args below meth c H locs mcT msT (MQ below (mx_post (mx_row M).2.2.2.2.1 Q (fun u t => mx_P D cA base b adK w0 u t.heap) (fun q => base ≤ q)) args s mcT msT (fun q => base ≤ q)) (F0 m pc lsA [.int (Int32.ofInt e1)]) := by
      intro ft hn hft hnl
      rw [hft] at hr ⊢
      have e9 : mx_post (some ft) Q (fun u t => mx_P D cA base b adK w0 u t.heap) (fun q => base ≤ q) = va_Qi (fun r u => ∃ e : Int, r = Int32.ofInt e ∧ Q (some (.inl e)) u) (fun u t => mx_P D cA base b adK w0 u t.heap) (fun q => base ≤ q) := by
        cases ft <;> first | rfl | exact absurd rfl hnl
      rw [e9]
      exact W.zret hx hb hr hn (fun t ht hW => ⟨⟨Int32.ofInt e1, mm, rfl, ⟨e1, rfl, hQ⟩, by show mx_P D cA base b adK w0 mm t.heap; rw [ht]; exact hP⟩, hS.F ht⟩) hS.2.2 (mx_Dok hd.2) hlocks
    rcases hret with hret | ⟨hret, he⟩
    · exact hgo _ rfl hret (by decide)
    · exact hgo _ (by rcases he with rfl | rfl <;> rfl) hret (by decide)
  case lreturn =>
    obtain ⟨e1, rfl, hret, hQ⟩ := h
    have hd := of_decide_eq_true (show decide _ = true from hd0)
    rw [hret] at hr ⊢
    exact W.lret hx hb hr (fun t ht hW => ⟨⟨Int64.ofInt e1, mm, rfl, ⟨e1, rfl, hQ⟩, by show mx_P D cA base b adK w0 mm t.heap; rw [ht]; exact hP⟩, hS.F ht⟩) hS.2.2 (mx_Dok hd.2) hlocks
  all_goals cases h
theorem mx_R_sound {d : Nat} {Q : mx_Q} {x : mx_C} (hX : mx_X M p s m args meth c D cA base b adK adV w0) (hSt : mx_St base adK adV s s.heap) (hR : mcT ≤ R.cells ∧ msT ≤ R.slots ∧ d + 1 ≤ R.frames ∧ 36 + 36 * d ≤ R.locals) (hyk : ∀ y, y < 194 → y ≠ 0 → mx_yck y = true) (hck : mx_ckM M = true)
    (hcl : ∀ y as mm Q, mx_call d y as mm Q → mx_Con D cA base b adK adV w0 d y as mm Q) (hend : ∀ (pc : Nat) (ls : mx_L) (st : List mx_V) (mm : mx_M), mx_dk M pc (mx_kd M pc).1 (mx_kd M pc).2.1 (mx_kd M pc).2.2 = true → mx_end M (mx_kd M pc).1 st mm Q → mx_J p l e R s m args below meth c Qf D cA base b adK w0 M mcT msT (pc, ls, st, mm))
    (h : mx_R (mx_call d) M Q x) : mx_J p l e R s m args below meth c Qf D cA base b adK w0 M mcT msT x := by
  have hdk : ∀ pc, mx_dk M pc (mx_kd M pc).1 (mx_kd M pc).2.1 (mx_kd M pc).2.2 = true := by
    intro pc
    by_cases hl : pc < mx_len M
    · exact List.all_eq_true.mp hck pc (List.mem_range.mpr hl)
    · have : mx_kd M pc = (.nop, 0, 0) := by
        unfold mx_kd
        have : Nat.blt pc (mx_len M) = false := by
          cases hb : Nat.blt pc (mx_len M) with
          | false => rfl
          | true => exact absurd (Nat.le_of_ble_eq_true hb) (by omega)
        rw [this]
        rfl
      rw [this]
      rfl
  refine h _ (fun c hc => ?_)
  obtain ⟨pc, ls, st, mm⟩ := c
  rcases hc with ⟨h, hp, hJ⟩ | ⟨y, k, as, r, mid, bc, bs, g1, g2, g3, g4, g5, g6, g7, g8, g9⟩ | g | ⟨ls', m', g1, g2, g3, hJ⟩
  · exact mx_sn hX ⟨hR.1, hR.2.1, by omega, by omega⟩ (hdk pc) hp hJ
  · exact mx_s_call hX hSt hR hyk hcl (hdk pc) g1 g2 g3 g4 g5 g6 g7 g8 g9
  · exact hend pc ls st mm (hdk pc) g
  · intro H locs lsA cells slots h1 h2 h3 hl hP hS
    have q2 := g3.2.1
    have q3 := g3.2.2.1
    refine hJ H locs lsA cells slots (by show cells + m'.2.2.2.1 = _; rw [← q2]; exact h1) (by show slots + m'.2.2.2.2 = _; rw [← q3]; exact h2) (by show ls'.length = _; rw [g1]; exact h3) (mx_sub hl g2) (mx_P_eqv g3 hP) hS
end SNR
