/-! EVERY METHOD's CONTRACT out of a run of the machine -/
theorem mx_lo_len (as : List mx_V) (base b : Nat) (adK : Nat → Nat) : (lg_sl (as.map (mx_cv base b adK))).length = (mx_lo as).length := by
  induction as with
  | nil => rfl
  | cons v r ih =>
    have e : lg_sl ((v :: r).map (mx_cv base b adK)) = (if (mx_cv base b adK v).category = 2 then [Slot.val (mx_cv base b adK v), .second] else [.val (mx_cv base b adK v)]) ++ lg_sl (r.map (mx_cv base b adK)) := rfl
    rw [e, mx_cvcat, List.length_append, ih]
    rcases v with v | v | v
    · show 1 + _ = (some (.inl v) :: mx_lo r).length
      rw [List.length_cons]; omega
    · show 2 + _ = (some (.inr (.inl v)) :: none :: mx_lo r).length
      rw [List.length_cons, List.length_cons]; omega
    · show 1 + _ = (some (.inr (.inr v)) :: mx_lo r).length
      rw [List.length_cons]; omega
theorem mx_lo_args (base b : Nat) (adK : Nat → Nat) : ∀ (as : List mx_V) (k i : Nat) (v : mx_V), (mx_lo as).getD i none = some v → (k + i, mx_cv base b adK v) ∈ lv_args k (as.map (mx_cv base b adK))
  | [], k, i, v, h => by simp [mx_lo] at h
  | u :: r, k, i, v, h => by
    have e : lv_args k ((u :: r).map (mx_cv base b adK)) = (k, mx_cv base b adK u) :: lv_args (if (mx_cv base b adK u).category = 2 then k + 2 else k + 1) (r.map (mx_cv base b adK)) := rfl
    rw [e, mx_cvcat]
    have one : ∀ (w : mx_V), mx_cat w ≠ 2 → mx_lo (u :: r) = some w :: mx_lo r → u = w → (k + i, mx_cv base b adK v) ∈ (k, mx_cv base b adK u) :: lv_args (if mx_cat u = 2 then k + 2 else k + 1) (r.map (mx_cv base b adK)) := by
      intro w hw hlo hu
      rw [hlo] at h
      subst hu
      cases i with
      | zero =>
        cases h
        exact List.mem_cons_self
      | succ i =>
        rw [if_neg hw]
        have h2 : (mx_lo r).getD i none = some v := h
        have := mx_lo_args base b adK r (k + 1) i v h2
        rw [show k + 1 + i = k + (i + 1) by omega] at this
        exact List.mem_cons_of_mem _ this
    rcases u with w | w | w
    · exact one _ (fun q => by cases q) rfl rfl
    · have hlo : mx_lo (.inr (.inl w) :: r) = some (.inr (.inl w)) :: none :: mx_lo r := rfl
      rw [hlo] at h
      match i, h with
      | 0, h => cases h; exact List.mem_cons_self
      | 1, h => cases h
      | i + 2, h =>
        have h2 : (mx_lo r).getD i none = some v := h
        have := mx_lo_args base b adK r (k + 2) i v h2
        rw [show k + 2 + i = k + (i + 2) by omega] at this
        exact List.mem_cons_of_mem _ this
    · exact one _ (fun q => by cases q) rfl rfl
theorem mx_ini_has {as : List mx_V} {M base b : Nat} {adK : Nat → Nat} (h : (mx_lo as).length ≤ (mx_row M).2.2.2.1) (m : MethodId) : ∃ ls : Array Slot, entryFrame m (as.map (mx_cv base b adK)).toArray (mx_row M).2.2.2.1 = F0 m 0 ls [] ∧ lv_has ls (mx_row M).2.2.2.1 (mx_pr base b adK (mx_ini M as)) := by
  have hl := lv_entry (as.map (mx_cv base b adK)) (n := (mx_row M).2.2.2.1) (by rw [mx_lo_len]; exact h)
  refine ⟨_, lg_entry_eq m _ _, hl.1, hl.2.1, fun q hq => ?_⟩
  obtain ⟨v, h1, h2⟩ := mx_pr_mem.mp (show (q.1, q.2) ∈ _ from hq)
  rw [h2]
  have h3 : (mx_lo as).getD q.1 none = some v := by
    unfold mx_ini at h1
    rw [List.getD_eq_getElem?_getD] at h1 ⊢
    by_cases hlt : q.1 < (mx_lo as).length
    · rw [List.getElem?_append_left hlt] at h1
      exact h1
    · rw [List.getElem?_append_right (by omega), List.getElem?_replicate] at h1
      split at h1 <;> cases h1
  have := mx_lo_args base b adK as 0 q.1 v h3
  rw [Nat.zero_add] at this
  exact hl.2.2 _ this
theorem mx_con {D : va_G} {cA : Nat → ClassId} {base b : Nat} {adK adV : Nat → Nat} {w0 : Int → Int} (hyk : ∀ y, y < 194 → y ≠ 0 → mx_yck y = true) (hck : ∀ M, M < 194 → mx_ckM M = true)
    (h300 : ∀ (d j : Nat) (mm : mx_M) (Q : mx_Q), j < 8 → Q (some (.inl ((mx_st.getD j "").length : Int))) mm → mx_Con D cA base b adK adV w0 (d + 1) 300 [.inr (.inr (-3 - (j : Int)))] mm Q)
    (h301 : ∀ (d j k : Nat) (mm : mx_M) (Q : mx_Q), 4 ≤ d → j < 8 → k < (mx_st.getD j "").length → Q (some (.inl ((((mx_st.getD j "").toList.getD k 'a').toNat : Nat) : Int))) mm → mx_Con D cA base b adK adV w0 (d + 1) 301 [.inr (.inr (-3 - (j : Int))), .inl (k : Int)] mm Q) :
    ∀ d y as mm Q, mx_call d y as mm Q → mx_Con D cA base b adK adV w0 d y as mm Q := by
  intro d
  induction d with
  | zero => intro y as mm Q h; cases h
  | succ d ih =>
    intro y as mm Q h
    unfold mx_call at h
    by_cases y0 : y = 300
    · subst y0
      rw [if_pos rfl] at h
      obtain ⟨j, hj, rfl, hQ⟩ := h
      exact h300 d j mm Q hj hQ
    · rw [if_neg y0] at h
      by_cases y1 : y = 301
      · subst y1
        rw [if_pos rfl] at h
        obtain ⟨hd, j, k, hj, hk, rfl, hQ⟩ := h
        exact h301 d j k mm Q hd hj hk hQ
      · rw [if_neg y1] at h
        obtain ⟨hy, hy0, hlen, hlo, hR⟩ := h
        have hy : y < 194 := hy
        have hk := hyk y hy hy0
        unfold mx_yck at hk
        simp only [Bool.and_eq_true] at hk
        obtain ⟨k1, k2, k3, k4, k5, k6⟩ := hk
        have k5 := of_decide_eq_true k5
        intro l
        rw [mx_rwr hy]
        have hws : mx_ws y = Cond.code (mx_row y).1 (mx_row y).2.2.1 (mx_row y).2.2.2.1 (mx_row y).2.2.2.2.1 :: mx_gw := by rw [mx_ws, mx_rwr hy]
        refine Met.ofW (cc := (mx_row y).2.2.1) (maxL := (mx_row y).2.2.2.1) (ret := (mx_row y).2.2.2.2.1) k5.2.2.2.1 hws ?_
        intro p e s m args below meth c s₁ B hml hv
        obtain ⟨rfl, hP, hK, hE, hSt⟩ := hv
        have hts0 := atoms_spec (ws := mx_ws y) B.pre
        have hts : ∀ w ∈ lw_tbl, goodWord w = true → w.before (as.map (mx_cv base b adK)).toArray s = true := fun w h1 h2 => hts0 w (by rw [hws]; exact List.mem_cons_of_mem _ (mx_good ⟨h1, h2⟩))
        have hown : s.vm.findClass (mx_on.getD (mx_ow y) "") = some m.cls := by rw [k5.2.2.2.2.1]; exact findClass_of_methodNamed B.named
        have hX : mx_X y p s m (as.map (mx_cv base b adK)).toArray meth c D cA base b adK adV w0 := ⟨B.exec, B.bytes, hml, hown, hts, hK, by rw [hP.1]; omega, hE, (name_of_methodNamed B.named B.method).1, fun h0 => absurd h0 hy0⟩
        obtain ⟨ls, hf, hl⟩ := mx_ini_has (base := base) (b := b) (adK := adK) hlo m
        rw [hf]
        have hJ := mx_R_sound (l := l) (e := e) (below := below) (Qf := MQ below (mx_post (mx_row y).2.2.2.2.1 Q (fun u t => mx_P D cA base b adK w0 u t.heap) (fun q => base ≤ q)) (as.map (mx_cv base b adK)).toArray s mm.2.2.2.1 mm.2.2.2.2 (fun q => base ≤ q)) (mcT := mm.2.2.2.1) (msT := mm.2.2.2.2) (R := (headSpec (mx_ws y) ({ frames := d + 1, cells := mm.2.2.2.1, slots := mm.2.2.2.2, locals := 36 * (d + 1) })).room) hX hSt ⟨Nat.le_refl _, Nat.le_refl _, Nat.le_refl _, by show 36 + 36 * d ≤ 36 * (d + 1); omega⟩ hyk (hck y hy) ih (fun pc ls st mm2 hd0 hend => mx_s_end hX B.notSynchronized B.returns hd0 hend) hR
        exact hJ s.heap [] ls 0 0 (Nat.zero_add _) (Nat.zero_add _) (by show (mx_ini y as).length = _; unfold mx_ini; rw [List.length_append, List.length_replicate]; omega) hl hP va_S.rf
