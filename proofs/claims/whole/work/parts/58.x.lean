/-! THE LAW: its loop -/
section
variable {d M pc pc' n : Nat} {z : Int} {Q : rQ} {ls : mx_L} {st : List mx_V} {S : rS} {a b v i : Int}
theorem r_icmp_eqv {t : Int} (e : mx_kd M pc = (.if_icmp .eq t, n, z)) (hpc : t.toNat = pc') (h : a = b) (K : RS d M Q pc' ls st S) : RS d M Q pc ls (.inl b :: .inl a :: st) S := r_nx (h := 2) (op := some ((ClassFile.Cond.eq : ClassFile.Cond) = ClassFile.Cond.eq ∧ a = b)) e (by subst hpc; rfl) (And.intro rfl h) K
theorem r_salv (e : mx_kd M pc = (.saload, n, z)) (hpc : pc + n = pc') (hi : 0 ≤ i ∧ i < S (-2) (-1)) (hv : S (-2) i = v) (K : RS d M Q pc' ls (.inl v :: st) S) : RS d M Q pc ls (.inl i :: .inr (.inr (-2)) :: st) S := by
  subst hv
  exact r_nx (h := 0) (op := some _) e (by subst hpc; rfl) (And.intro rfl hi) K
theorem r_alen (e : mx_kd M pc = (.arraylength, n, z)) (hpc : pc + n = pc') (hv : S (-2) (-1) = v) (K : RS d M Q pc' ls (.inl v :: st) S) : RS d M Q pc ls (.inr (.inr (-2)) :: st) S := by
  subst hv
  exact r_nx (h := 0) (op := some _) e (by subst hpc; rfl) rfl K
theorem bdm (hS : Bd S) (j : Int) : -2147483648 ≤ S (-2) j ∧ S (-2) j < 2147483648 := by
  have h : -2147483648 ≤ S (-2) j ∧ S (-2) j ≤ 2147483647 := hS (-2) j
  omega
theorem lk_r {s i : Int} (hS : Bd S) : -9223372036854775808 ≤ v_X11_look S s i ∧ v_X11_look S s i < 9223372036854775808 := by
  have h : -2147483648 ≤ S 244 (24 * s + i) ∧ S 244 (24 * s + i) ≤ 2147483647 := hS 244 (24 * s + i)
  unfold v_X11_look
  repeat' split
  all_goals omega
end
abbrev LL (i : Int) : mx_L := [some (.inr (.inr (-2))), some (.inr (.inr 0)), some (.inr (.inr 232)), some (.inl i)]
theorem lw_write {d : Nat} {Q : rQ} {S : rS} {i : Int} (hd : 10 ≤ d) (hS : Bd S) (h : IV S S) (hi : 0 ≤ i ∧ i + 6 ≤ S (-2) (-1)) (K : ∀ S', Bd S' → IV S' S' → S' (-2) = S (-2) → RS d 0 Q 1191 (LL i) [] S') : RS d 0 Q 192 (LL i) [] S := by
  refine r_aload (pc' := 193) rfl rfl rfl ?_
  refine r_aload (pc' := 194) rfl rfl rfl ?_
  refine r_iload (pc' := 195) rfl rfl rfl ?_
  refine r_const (pc' := 196) rfl rfl ?_
  refine r_iadd (pc' := 197) rfl rfl ?_
  refine r_salv (pc' := 198) (v := S (-2) (i + 1)) rfl rfl (by omega) rfl ?_
  refine q_call (pc' := 201) rfl rfl rfl (c_X10_write hS (bdm hS _)) (by omega) rfl rfl (Nat.le_of_ble_eq_true rfl) (fun _ _ => ⟨_, _, rfl, rfl⟩) rfl ?_
  intro r1 T1 hq1 hz1
  obtain ⟨rfl, rfl, hB1⟩ := hq1
  show RS _ _ _ _ _ [.inl _] _
  refine r_aload (pc' := 202) rfl rfl rfl ?_
  refine r_aload (pc' := 203) rfl rfl rfl ?_
  refine r_iload (pc' := 204) rfl rfl rfl ?_
  refine r_const (pc' := 205) rfl rfl ?_
  refine r_iadd (pc' := 206) rfl rfl ?_
  refine r_salv (pc' := 207) (v := S (-2) (i + 1)) rfl rfl (by rw [hz1]; omega) (congrFun hz1 _) ?_
  refine q_call (pc' := 210) rfl rfl rfl (c_X11_write hB1 (bdm hS _)) (by omega) rfl rfl (Nat.le_of_ble_eq_true rfl) (fun _ _ => ⟨_, _, rfl, rfl⟩) rfl ?_
  intro r2 T2 hq2 hz2
  obtain ⟨rfl, rfl, hB2⟩ := hq2
  show RS _ _ _ _ _ [.inl _, .inl _] _
  have p := p_write hS h hB1 hB2
  refine r_icmp_eqv (pc' := 1191) rfl rfl p.1 ?_
  exact K _ hB2 p.2.1 (hz2.trans hz1)
theorem lw_erase {d : Nat} {Q : rQ} {S : rS} {i : Int} (hd : 10 ≤ d) (hS : Bd S) (h : IV S S) (hi : 0 ≤ i ∧ i + 6 ≤ S (-2) (-1)) (K : ∀ S', Bd S' → IV S' S' → S' (-2) = S (-2) → RS d 0 Q 1191 (LL i) [] S') : RS d 0 Q 215 (LL i) [] S := by
  refine r_aload (pc' := 216) rfl rfl rfl ?_
  refine q_call (pc' := 219) rfl rfl rfl (c_X10_erase hS) (by omega) rfl rfl (Nat.le_of_ble_eq_true rfl) (fun _ _ => ⟨_, _, rfl, rfl⟩) rfl ?_
  intro r1 T1 hq1 hz1
  obtain ⟨rfl, rfl, hB1⟩ := hq1
  show RS _ _ _ _ _ [.inl _] _
  refine r_aload (pc' := 220) rfl rfl rfl ?_
  refine q_call (pc' := 223) rfl rfl rfl (c_X11_erase hB1) (by omega) rfl rfl (Nat.le_of_ble_eq_true rfl) (fun _ _ => ⟨_, _, rfl, rfl⟩) rfl ?_
  intro r2 T2 hq2 hz2
  obtain ⟨rfl, rfl, hB2⟩ := hq2
  show RS _ _ _ _ _ [.inl _, .inl _] _
  have p := p_erase hS h hB1 hB2
  refine r_icmp_eqv (pc' := 1191) rfl rfl p.1 ?_
  exact K _ hB2 p.2.1 (hz2.trans hz1)
theorem lw_fault {d : Nat} {Q : rQ} {S : rS} {i : Int} (hd : 10 ≤ d) (hS : Bd S) (h : IV S S) (hi : 0 ≤ i ∧ i + 6 ≤ S (-2) (-1)) (K : ∀ S', Bd S' → IV S' S' → S' (-2) = S (-2) → RS d 0 Q 1191 (LL i) [] S') : RS d 0 Q 228 (LL i) [] S := by
  refine r_aload (pc' := 229) rfl rfl rfl ?_
  refine q_call (pc' := 232) rfl rfl rfl (c_X10_fault hS) (by omega) rfl rfl (Nat.le_of_ble_eq_true rfl) (fun _ _ => ⟨_, _, rfl, rfl⟩) rfl ?_
  intro r1 T1 hq1 hz1
  obtain ⟨hB1, v1, rfl⟩ := g_fault hq1
  show RS _ _ _ _ _ [.inl v1] _
  refine r_aload (pc' := 233) rfl rfl rfl ?_
  refine q_call (pc' := 236) rfl rfl rfl (c_X11_fault hB1) (by omega) rfl rfl (Nat.le_of_ble_eq_true rfl) (fun _ _ => ⟨_, _, rfl, rfl⟩) rfl ?_
  intro r2 T2 hq2 hz2
  obtain ⟨rfl, hB2, hL⟩ := p_fault hS h hB1 hq1 hq2
  show RS _ _ _ _ _ [.inl v1, .inl v1] _
  refine r_icmp_eqv (pc' := 1191) rfl rfl rfl ?_
  exact K _ hB2 hL.1 (hz2.trans hz1)
theorem lw_parish {d : Nat} {Q : rQ} {S : rS} {i : Int} (hd : 10 ≤ d) (hS : Bd S) (h : IV S S) (hi : 0 ≤ i ∧ i + 6 ≤ S (-2) (-1)) (K : ∀ S', Bd S' → IV S' S' → S' (-2) = S (-2) → RS d 0 Q 1191 (LL i) [] S') : RS d 0 Q 241 (LL i) [] S := by
  refine r_aload (pc' := 242) rfl rfl rfl ?_
  refine q_call (pc' := 245) rfl rfl rfl (c_X10_parish hS) (by omega) rfl rfl (Nat.le_of_ble_eq_true rfl) (fun _ _ => ⟨_, _, rfl, rfl⟩) rfl ?_
  intro r1 T1 hq1 hz1
  obtain ⟨hB1, v1, rfl⟩ := g_parish hq1
  show RS _ _ _ _ _ [.inl v1] _
  refine r_aload (pc' := 246) rfl rfl rfl ?_
  refine q_call (pc' := 249) rfl rfl rfl (c_X11_parish hB1) (by omega) rfl rfl (Nat.le_of_ble_eq_true rfl) (fun _ _ => ⟨_, _, rfl, rfl⟩) rfl ?_
  intro r2 T2 hq2 hz2
  obtain ⟨rfl, hB2, hL⟩ := p_parish hS h hB1 hq1 hq2
  show RS _ _ _ _ _ [.inl v1, .inl v1] _
  refine r_icmp_eqv (pc' := 1191) rfl rfl rfl ?_
  exact K _ hB2 hL.1 (hz2.trans hz1)
theorem lw_field {d : Nat} {Q : rQ} {S : rS} {i : Int} (hd : 10 ≤ d) (hS : Bd S) (h : IV S S) (hi : 0 ≤ i ∧ i + 6 ≤ S (-2) (-1)) (K : ∀ S', Bd S' → IV S' S' → S' (-2) = S (-2) → RS d 0 Q 1191 (LL i) [] S') : RS d 0 Q 254 (LL i) [] S := by
  refine r_aload (pc' := 255) rfl rfl rfl ?_
  refine r_aload (pc' := 256) rfl rfl rfl ?_
  refine r_iload (pc' := 257) rfl rfl rfl ?_
  refine r_const (pc' := 258) rfl rfl ?_
  refine r_iadd (pc' := 259) rfl rfl ?_
  refine r_salv (pc' := 260) (v := S (-2) (i + 1)) rfl rfl (by omega) rfl ?_
  refine r_aload (pc' := 261) rfl rfl rfl ?_
  refine r_iload (pc' := 262) rfl rfl rfl ?_
  refine r_const (pc' := 263) rfl rfl ?_
  refine r_iadd (pc' := 264) rfl rfl ?_
  refine r_salv (pc' := 265) (v := S (-2) (i + 2)) rfl rfl (by omega) rfl ?_
  refine q_callE (pc' := 268) (st' := [.inl _]) rfl rfl rfl (c_X10_field hS (bdm hS _) (bdm hS _)) (by omega) rfl rfl (Nat.le_of_ble_eq_true rfl) (fun _ _ => ⟨_, _, rfl, rfl⟩) rfl rfl ?_
  refine r_aload (pc' := 269) rfl rfl rfl ?_
  refine r_aload (pc' := 270) rfl rfl rfl ?_
  refine r_iload (pc' := 271) rfl rfl rfl ?_
  refine r_const (pc' := 272) rfl rfl ?_
  refine r_iadd (pc' := 273) rfl rfl ?_
  refine r_salv (pc' := 274) (v := S (-2) (i + 1)) rfl rfl (by omega) rfl ?_
  refine r_aload (pc' := 275) rfl rfl rfl ?_
  refine r_iload (pc' := 276) rfl rfl rfl ?_
  refine r_const (pc' := 277) rfl rfl ?_
  refine r_iadd (pc' := 278) rfl rfl ?_
  refine r_salv (pc' := 279) (v := S (-2) (i + 2)) rfl rfl (by omega) rfl ?_
  refine q_callE (pc' := 282) (st' := [.inl _, .inl _]) rfl rfl rfl (c_X11_field hS (bdm hS _) (bdm hS _)) (by omega) rfl rfl (Nat.le_of_ble_eq_true rfl) (fun _ _ => ⟨_, _, rfl, rfl⟩) rfl rfl ?_
  refine r_icmp_eqv (pc' := 1191) rfl rfl (e_field hS hS h) ?_
  exact K S hS h rfl
theorem lw_letter {d : Nat} {Q : rQ} {S : rS} {i : Int} (hd : 10 ≤ d) (hS : Bd S) (h : IV S S) (hi : 0 ≤ i ∧ i + 6 ≤ S (-2) (-1)) (K : ∀ S', Bd S' → IV S' S' → S' (-2) = S (-2) → RS d 0 Q 1191 (LL i) [] S') : RS d 0 Q 287 (LL i) [] S := by
  refine r_aload (pc' := 288) rfl rfl rfl ?_
  refine r_aload (pc' := 289) rfl rfl rfl ?_
  refine r_iload (pc' := 290) rfl rfl rfl ?_
  refine r_const (pc' := 291) rfl rfl ?_
  refine r_iadd (pc' := 292) rfl rfl ?_
  refine r_salv (pc' := 293) (v := S (-2) (i + 1)) rfl rfl (by omega) rfl ?_
  refine r_aload (pc' := 294) rfl rfl rfl ?_
  refine r_iload (pc' := 295) rfl rfl rfl ?_
  refine r_const (pc' := 296) rfl rfl ?_
  refine r_iadd (pc' := 297) rfl rfl ?_
  refine r_salv (pc' := 298) (v := S (-2) (i + 2)) rfl rfl (by omega) rfl ?_
  refine q_callE (pc' := 301) (st' := [.inl _]) rfl rfl rfl (c_X10_letter hS (bdm hS _) (bdm hS _)) (by omega) rfl rfl (Nat.le_of_ble_eq_true rfl) (fun _ _ => ⟨_, _, rfl, rfl⟩) rfl rfl ?_
  refine r_aload (pc' := 302) rfl rfl rfl ?_
  refine r_aload (pc' := 303) rfl rfl rfl ?_
  refine r_iload (pc' := 304) rfl rfl rfl ?_
  refine r_const (pc' := 305) rfl rfl ?_
  refine r_iadd (pc' := 306) rfl rfl ?_
  refine r_salv (pc' := 307) (v := S (-2) (i + 1)) rfl rfl (by omega) rfl ?_
  refine r_aload (pc' := 308) rfl rfl rfl ?_
  refine r_iload (pc' := 309) rfl rfl rfl ?_
  refine r_const (pc' := 310) rfl rfl ?_
  refine r_iadd (pc' := 311) rfl rfl ?_
  refine r_salv (pc' := 312) (v := S (-2) (i + 2)) rfl rfl (by omega) rfl ?_
  refine q_callE (pc' := 315) (st' := [.inl _, .inl _]) rfl rfl rfl (c_X11_letter hS (bdm hS _) (bdm hS _)) (by omega) rfl rfl (Nat.le_of_ble_eq_true rfl) (fun _ _ => ⟨_, _, rfl, rfl⟩) rfl rfl ?_
  refine r_icmp_eqv (pc' := 1191) rfl rfl (e_letter hS hS h) ?_
  exact K S hS h rfl
theorem lw_gate {d : Nat} {Q : rQ} {S : rS} {i : Int} (hd : 10 ≤ d) (hS : Bd S) (h : IV S S) (hi : 0 ≤ i ∧ i + 6 ≤ S (-2) (-1)) (K : ∀ S', Bd S' → IV S' S' → S' (-2) = S (-2) → RS d 0 Q 1191 (LL i) [] S') : RS d 0 Q 320 (LL i) [] S := by
  refine r_aload (pc' := 321) rfl rfl rfl ?_
  refine r_aload (pc' := 322) rfl rfl rfl ?_
  refine r_iload (pc' := 323) rfl rfl rfl ?_
  refine r_const (pc' := 324) rfl rfl ?_
  refine r_iadd (pc' := 325) rfl rfl ?_
  refine r_salv (pc' := 326) (v := S (-2) (i + 1)) rfl rfl (by omega) rfl ?_
  refine r_aload (pc' := 327) rfl rfl rfl ?_
  refine r_iload (pc' := 328) rfl rfl rfl ?_
  refine r_const (pc' := 329) rfl rfl ?_
  refine r_iadd (pc' := 330) rfl rfl ?_
  refine r_salv (pc' := 331) (v := S (-2) (i + 2)) rfl rfl (by omega) rfl ?_
  refine q_callE (pc' := 334) (st' := [.inl _]) rfl rfl rfl (c_X10_gate hS (bdm hS _) (bdm hS _)) (by omega) rfl rfl (Nat.le_of_ble_eq_true rfl) (fun _ _ => ⟨_, _, rfl, rfl⟩) rfl rfl ?_
  refine r_aload (pc' := 335) rfl rfl rfl ?_
  refine r_aload (pc' := 336) rfl rfl rfl ?_
  refine r_iload (pc' := 337) rfl rfl rfl ?_
  refine r_const (pc' := 338) rfl rfl ?_
  refine r_iadd (pc' := 339) rfl rfl ?_
  refine r_salv (pc' := 340) (v := S (-2) (i + 1)) rfl rfl (by omega) rfl ?_
  refine r_aload (pc' := 341) rfl rfl rfl ?_
  refine r_iload (pc' := 342) rfl rfl rfl ?_
  refine r_const (pc' := 343) rfl rfl ?_
  refine r_iadd (pc' := 344) rfl rfl ?_
  refine r_salv (pc' := 345) (v := S (-2) (i + 2)) rfl rfl (by omega) rfl ?_
  refine q_callE (pc' := 348) (st' := [.inl _, .inl _]) rfl rfl rfl (c_X11_gate hS (bdm hS _) (bdm hS _)) (by omega) rfl rfl (Nat.le_of_ble_eq_true rfl) (fun _ _ => ⟨_, _, rfl, rfl⟩) rfl rfl ?_
  refine r_icmp_eqv (pc' := 1191) rfl rfl (e_gate hS hS h) ?_
  exact K S hS h rfl
theorem lw_word {d : Nat} {Q : rQ} {S : rS} {i : Int} (hd : 10 ≤ d) (hS : Bd S) (h : IV S S) (hi : 0 ≤ i ∧ i + 6 ≤ S (-2) (-1)) (K : ∀ S', Bd S' → IV S' S' → S' (-2) = S (-2) → RS d 0 Q 1191 (LL i) [] S') : RS d 0 Q 353 (LL i) [] S := by
  refine r_aload (pc' := 354) rfl rfl rfl ?_
  refine r_aload (pc' := 355) rfl rfl rfl ?_
  refine r_iload (pc' := 356) rfl rfl rfl ?_
  refine r_const (pc' := 357) rfl rfl ?_
  refine r_iadd (pc' := 358) rfl rfl ?_
  refine r_salv (pc' := 359) (v := S (-2) (i + 1)) rfl rfl (by omega) rfl ?_
  refine r_aload (pc' := 360) rfl rfl rfl ?_
  refine r_iload (pc' := 361) rfl rfl rfl ?_
  refine r_const (pc' := 362) rfl rfl ?_
  refine r_iadd (pc' := 363) rfl rfl ?_
  refine r_salv (pc' := 364) (v := S (-2) (i + 2)) rfl rfl (by omega) rfl ?_
  refine q_callE (pc' := 367) (st' := [.inl _]) rfl rfl rfl (c_X10_word hS (bdm hS _) (bdm hS _)) (by omega) rfl rfl (Nat.le_of_ble_eq_true rfl) (fun _ _ => ⟨_, _, rfl, rfl⟩) rfl rfl ?_
  refine r_aload (pc' := 368) rfl rfl rfl ?_
  refine r_aload (pc' := 369) rfl rfl rfl ?_
  refine r_iload (pc' := 370) rfl rfl rfl ?_
  refine r_const (pc' := 371) rfl rfl ?_
  refine r_iadd (pc' := 372) rfl rfl ?_
  refine r_salv (pc' := 373) (v := S (-2) (i + 1)) rfl rfl (by omega) rfl ?_
  refine r_aload (pc' := 374) rfl rfl rfl ?_
  refine r_iload (pc' := 375) rfl rfl rfl ?_
  refine r_const (pc' := 376) rfl rfl ?_
  refine r_iadd (pc' := 377) rfl rfl ?_
  refine r_salv (pc' := 378) (v := S (-2) (i + 2)) rfl rfl (by omega) rfl ?_
  refine q_callE (pc' := 381) (st' := [.inl _, .inl _]) rfl rfl rfl (c_X11_word hS (bdm hS _) (bdm hS _)) (by omega) rfl rfl (Nat.le_of_ble_eq_true rfl) (fun _ _ => ⟨_, _, rfl, rfl⟩) rfl rfl ?_
  refine r_icmp_eqv (pc' := 1191) rfl rfl (e_word hS hS h) ?_
  exact K S hS h rfl
theorem lw_as {d : Nat} {Q : rQ} {S : rS} {i : Int} (hd : 10 ≤ d) (hS : Bd S) (h : IV S S) (hi : 0 ≤ i ∧ i + 6 ≤ S (-2) (-1)) (K : ∀ S', Bd S' → IV S' S' → S' (-2) = S (-2) → RS d 0 Q 1191 (LL i) [] S') : RS d 0 Q 386 (LL i) [] S := by
  refine r_aload (pc' := 387) rfl rfl rfl ?_
  refine r_aload (pc' := 388) rfl rfl rfl ?_
  refine r_iload (pc' := 389) rfl rfl rfl ?_
  refine r_const (pc' := 390) rfl rfl ?_
  refine r_iadd (pc' := 391) rfl rfl ?_
  refine r_salv (pc' := 392) (v := S (-2) (i + 1)) rfl rfl (by omega) rfl ?_
  refine r_aload (pc' := 393) rfl rfl rfl ?_
  refine r_iload (pc' := 394) rfl rfl rfl ?_
  refine r_const (pc' := 395) rfl rfl ?_
  refine r_iadd (pc' := 396) rfl rfl ?_
  refine r_salv (pc' := 397) (v := S (-2) (i + 2)) rfl rfl (by omega) rfl ?_
  refine q_callE (pc' := 400) (st' := [.inl _]) rfl rfl rfl (c_X10_as hS (bdm hS _) (bdm hS _)) (by omega) rfl rfl (Nat.le_of_ble_eq_true rfl) (fun _ _ => ⟨_, _, rfl, rfl⟩) rfl rfl ?_
  refine r_aload (pc' := 401) rfl rfl rfl ?_
  refine r_aload (pc' := 402) rfl rfl rfl ?_
  refine r_iload (pc' := 403) rfl rfl rfl ?_
  refine r_const (pc' := 404) rfl rfl ?_
  refine r_iadd (pc' := 405) rfl rfl ?_
  refine r_salv (pc' := 406) (v := S (-2) (i + 1)) rfl rfl (by omega) rfl ?_
  refine r_aload (pc' := 407) rfl rfl rfl ?_
  refine r_iload (pc' := 408) rfl rfl rfl ?_
  refine r_const (pc' := 409) rfl rfl ?_
  refine r_iadd (pc' := 410) rfl rfl ?_
  refine r_salv (pc' := 411) (v := S (-2) (i + 2)) rfl rfl (by omega) rfl ?_
  refine q_callE (pc' := 414) (st' := [.inl _, .inl _]) rfl rfl rfl (c_X11_as hS (bdm hS _) (bdm hS _)) (by omega) rfl rfl (Nat.le_of_ble_eq_true rfl) (fun _ _ => ⟨_, _, rfl, rfl⟩) rfl rfl ?_
  refine r_icmp_eqv (pc' := 1191) rfl rfl (e_as hS hS h) ?_
  exact K S hS h rfl
theorem lw_through {d : Nat} {Q : rQ} {S : rS} {i : Int} (hd : 10 ≤ d) (hS : Bd S) (h : IV S S) (hi : 0 ≤ i ∧ i + 6 ≤ S (-2) (-1)) (K : ∀ S', Bd S' → IV S' S' → S' (-2) = S (-2) → RS d 0 Q 1191 (LL i) [] S') : RS d 0 Q 419 (LL i) [] S := by
  refine r_aload (pc' := 420) rfl rfl rfl ?_
  refine r_aload (pc' := 421) rfl rfl rfl ?_
  refine r_iload (pc' := 422) rfl rfl rfl ?_
  refine r_const (pc' := 423) rfl rfl ?_
  refine r_iadd (pc' := 424) rfl rfl ?_
  refine r_salv (pc' := 425) (v := S (-2) (i + 1)) rfl rfl (by omega) rfl ?_
  refine q_call (pc' := 428) rfl rfl rfl (c_X10_through hS (bdm hS _)) (by omega) rfl rfl (Nat.le_of_ble_eq_true rfl) (fun _ _ => ⟨_, _, rfl, rfl⟩) rfl ?_
  intro r1 T1 hq1 hz1
  obtain ⟨rfl, rfl, hB1⟩ := hq1
  show RS _ _ _ _ _ [.inl _] _
  refine r_aload (pc' := 429) rfl rfl rfl ?_
  refine r_aload (pc' := 430) rfl rfl rfl ?_
  refine r_iload (pc' := 431) rfl rfl rfl ?_
  refine r_const (pc' := 432) rfl rfl ?_
  refine r_iadd (pc' := 433) rfl rfl ?_
  refine r_salv (pc' := 434) (v := S (-2) (i + 1)) rfl rfl (by rw [hz1]; omega) (congrFun hz1 _) ?_
  refine q_call (pc' := 437) rfl rfl rfl (c_X11_through hB1 (bdm hS _)) (by omega) rfl rfl (Nat.le_of_ble_eq_true rfl) (fun _ _ => ⟨_, _, rfl, rfl⟩) rfl ?_
  intro r2 T2 hq2 hz2
  obtain ⟨rfl, rfl, hB2⟩ := hq2
  show RS _ _ _ _ _ [.inl _, .inl _] _
  have p := p_through hS h hB1 hB2
  refine r_icmp_eqv (pc' := 1191) rfl rfl p.1 ?_
  exact K _ hB2 p.2.1 (hz2.trans hz1)
theorem lw_read {d : Nat} {Q : rQ} {S : rS} {i : Int} (hd : 10 ≤ d) (hS : Bd S) (h : IV S S) (hi : 0 ≤ i ∧ i + 6 ≤ S (-2) (-1)) (K : ∀ S', Bd S' → IV S' S' → S' (-2) = S (-2) → RS d 0 Q 1191 (LL i) [] S') : RS d 0 Q 442 (LL i) [] S := by
  refine r_aload (pc' := 443) rfl rfl rfl ?_
  refine q_call (pc' := 446) rfl rfl rfl (c_X10_read hS) (by omega) rfl rfl (Nat.le_of_ble_eq_true rfl) (fun _ _ => ⟨_, _, rfl, rfl⟩) rfl ?_
  intro r1 T1 hq1 hz1
  obtain ⟨rfl, rfl, hB1⟩ := hq1
  show RS _ _ _ _ _ [.inl _] _
  refine r_aload (pc' := 447) rfl rfl rfl ?_
  refine q_call (pc' := 450) rfl rfl rfl (c_X11_read hB1) (by omega) rfl rfl (Nat.le_of_ble_eq_true rfl) (fun _ _ => ⟨_, _, rfl, rfl⟩) rfl ?_
  intro r2 T2 hq2 hz2
  obtain ⟨rfl, rfl, hB2⟩ := hq2
  show RS _ _ _ _ _ [.inl _, .inl _] _
  have p := p_read hS h hB1 hB2
  refine r_icmp_eqv (pc' := 1191) rfl rfl p.1 ?_
  exact K _ hB2 p.2.1 (hz2.trans hz1)
theorem lw_rain {d : Nat} {Q : rQ} {S : rS} {i : Int} (hd : 10 ≤ d) (hS : Bd S) (h : IV S S) (hi : 0 ≤ i ∧ i + 6 ≤ S (-2) (-1)) (K : ∀ S', Bd S' → IV S' S' → S' (-2) = S (-2) → RS d 0 Q 1191 (LL i) [] S') : RS d 0 Q 455 (LL i) [] S := by
  refine r_aload (pc' := 456) rfl rfl rfl ?_
  refine r_aload (pc' := 457) rfl rfl rfl ?_
  refine r_iload (pc' := 458) rfl rfl rfl ?_
  refine r_const (pc' := 459) rfl rfl ?_
  refine r_iadd (pc' := 460) rfl rfl ?_
  refine r_salv (pc' := 461) (v := S (-2) (i + 1)) rfl rfl (by omega) rfl ?_
  refine q_call (pc' := 464) rfl rfl rfl (c_X10_rain hS (bdm hS _)) (by omega) rfl rfl (Nat.le_of_ble_eq_true rfl) (fun _ _ => ⟨_, _, rfl, rfl⟩) rfl ?_
  intro r1 T1 hq1 hz1
  obtain ⟨rfl, rfl, hB1⟩ := hq1
  show RS _ _ _ _ _ [.inl _] _
  refine r_aload (pc' := 465) rfl rfl rfl ?_
  refine r_aload (pc' := 466) rfl rfl rfl ?_
  refine r_iload (pc' := 467) rfl rfl rfl ?_
  refine r_const (pc' := 468) rfl rfl ?_
  refine r_iadd (pc' := 469) rfl rfl ?_
  refine r_salv (pc' := 470) (v := S (-2) (i + 1)) rfl rfl (by rw [hz1]; omega) (congrFun hz1 _) ?_
  refine q_call (pc' := 473) rfl rfl rfl (c_X11_rain hB1 (bdm hS _)) (by omega) rfl rfl (Nat.le_of_ble_eq_true rfl) (fun _ _ => ⟨_, _, rfl, rfl⟩) rfl ?_
  intro r2 T2 hq2 hz2
  obtain ⟨rfl, rfl, hB2⟩ := hq2
  show RS _ _ _ _ _ [.inl _, .inl _] _
  have p := p_rain hS h hB1 hB2
  refine r_icmp_eqv (pc' := 1191) rfl rfl p.1 ?_
  exact K _ hB2 p.2.1 (hz2.trans hz1)
theorem lw_birds {d : Nat} {Q : rQ} {S : rS} {i : Int} (hd : 10 ≤ d) (hS : Bd S) (h : IV S S) (hi : 0 ≤ i ∧ i + 6 ≤ S (-2) (-1)) (K : ∀ S', Bd S' → IV S' S' → S' (-2) = S (-2) → RS d 0 Q 1191 (LL i) [] S') : RS d 0 Q 478 (LL i) [] S := by
  refine r_aload (pc' := 479) rfl rfl rfl ?_
  refine q_call (pc' := 482) rfl rfl rfl (c_X10_birds hS) (by omega) rfl rfl (Nat.le_of_ble_eq_true rfl) (fun _ _ => ⟨_, _, rfl, rfl⟩) rfl ?_
  intro r1 T1 hq1 hz1
  obtain ⟨rfl, rfl, hB1⟩ := hq1
  show RS _ _ _ _ _ [.inl _] _
  refine r_aload (pc' := 483) rfl rfl rfl ?_
  refine q_call (pc' := 486) rfl rfl rfl (c_X11_birds hB1) (by omega) rfl rfl (Nat.le_of_ble_eq_true rfl) (fun _ _ => ⟨_, _, rfl, rfl⟩) rfl ?_
  intro r2 T2 hq2 hz2
  obtain ⟨rfl, rfl, hB2⟩ := hq2
  show RS _ _ _ _ _ [.inl _, .inl _] _
  have p := p_birds hS h hB1 hB2
  refine r_icmp_eqv (pc' := 1191) rfl rfl p.1 ?_
  exact K _ hB2 p.2.1 (hz2.trans hz1)
theorem lw_plough {d : Nat} {Q : rQ} {S : rS} {i : Int} (hd : 10 ≤ d) (hS : Bd S) (h : IV S S) (hi : 0 ≤ i ∧ i + 6 ≤ S (-2) (-1)) (K : ∀ S', Bd S' → IV S' S' → S' (-2) = S (-2) → RS d 0 Q 1191 (LL i) [] S') : RS d 0 Q 491 (LL i) [] S := by
  refine r_aload (pc' := 492) rfl rfl rfl ?_
  refine r_aload (pc' := 493) rfl rfl rfl ?_
  refine r_iload (pc' := 494) rfl rfl rfl ?_
  refine r_const (pc' := 495) rfl rfl ?_
  refine r_iadd (pc' := 496) rfl rfl ?_
  refine r_salv (pc' := 497) (v := S (-2) (i + 1)) rfl rfl (by omega) rfl ?_
  refine q_call (pc' := 500) rfl rfl rfl (c_X10_plough hS (bdm hS _)) (by omega) rfl rfl (Nat.le_of_ble_eq_true rfl) (fun _ _ => ⟨_, _, rfl, rfl⟩) rfl ?_
  intro r1 T1 hq1 hz1
  obtain ⟨rfl, rfl, hB1⟩ := hq1
  show RS _ _ _ _ _ [.inl _] _
  refine r_aload (pc' := 501) rfl rfl rfl ?_
  refine r_aload (pc' := 502) rfl rfl rfl ?_
  refine r_iload (pc' := 503) rfl rfl rfl ?_
  refine r_const (pc' := 504) rfl rfl ?_
  refine r_iadd (pc' := 505) rfl rfl ?_
  refine r_salv (pc' := 506) (v := S (-2) (i + 1)) rfl rfl (by rw [hz1]; omega) (congrFun hz1 _) ?_
  refine q_call (pc' := 509) rfl rfl rfl (c_X11_plough hB1 (bdm hS _)) (by omega) rfl rfl (Nat.le_of_ble_eq_true rfl) (fun _ _ => ⟨_, _, rfl, rfl⟩) rfl ?_
  intro r2 T2 hq2 hz2
  obtain ⟨rfl, rfl, hB2⟩ := hq2
  show RS _ _ _ _ _ [.inl _, .inl _] _
  have p := p_plough hS h hB1 hB2
  refine r_icmp_eqv (pc' := 1191) rfl rfl p.1 ?_
  exact K _ hB2 p.2.1 (hz2.trans hz1)
theorem lw_day {d : Nat} {Q : rQ} {S : rS} {i : Int} (hd : 10 ≤ d) (hS : Bd S) (h : IV S S) (hi : 0 ≤ i ∧ i + 6 ≤ S (-2) (-1)) (K : ∀ S', Bd S' → IV S' S' → S' (-2) = S (-2) → RS d 0 Q 1191 (LL i) [] S') : RS d 0 Q 514 (LL i) [] S := by
  refine r_aload (pc' := 515) rfl rfl rfl ?_
  refine q_call (pc' := 518) rfl rfl rfl (c_X10_day hS) (by omega) rfl rfl (Nat.le_of_ble_eq_true rfl) (fun _ _ => ⟨_, _, rfl, rfl⟩) rfl ?_
  intro r1 T1 hq1 hz1
  obtain ⟨rfl, rfl, hB1⟩ := hq1
  show RS _ _ _ _ _ [.inl _] _
  refine r_aload (pc' := 519) rfl rfl rfl ?_
  refine q_call (pc' := 522) rfl rfl rfl (c_X11_day hB1) (by omega) rfl rfl (Nat.le_of_ble_eq_true rfl) (fun _ _ => ⟨_, _, rfl, rfl⟩) rfl ?_
  intro r2 T2 hq2 hz2
  obtain ⟨rfl, rfl, hB2⟩ := hq2
  show RS _ _ _ _ _ [.inl _, .inl _] _
  have p := p_day hS h hB1 hB2
  refine r_icmp_eqv (pc' := 1191) rfl rfl p.1 ?_
  exact K _ hB2 p.2.1 (hz2.trans hz1)
theorem lw_undo {d : Nat} {Q : rQ} {S : rS} {i : Int} (hd : 10 ≤ d) (hS : Bd S) (h : IV S S) (hi : 0 ≤ i ∧ i + 6 ≤ S (-2) (-1)) (K : ∀ S', Bd S' → IV S' S' → S' (-2) = S (-2) → RS d 0 Q 1191 (LL i) [] S') : RS d 0 Q 527 (LL i) [] S := by
  refine r_aload (pc' := 528) rfl rfl rfl ?_
  refine q_call (pc' := 531) rfl rfl rfl (c_X10_undo hS) (by omega) rfl rfl (Nat.le_of_ble_eq_true rfl) (fun _ _ => ⟨_, _, rfl, rfl⟩) rfl ?_
  intro r1 T1 hq1 hz1
  obtain ⟨rfl, rfl, hB1⟩ := hq1
  show RS _ _ _ _ _ [.inl _] _
  refine r_aload (pc' := 532) rfl rfl rfl ?_
  refine q_call (pc' := 535) rfl rfl rfl (c_X11_undo hB1) (by omega) rfl rfl (Nat.le_of_ble_eq_true rfl) (fun _ _ => ⟨_, _, rfl, rfl⟩) rfl ?_
  intro r2 T2 hq2 hz2
  obtain ⟨rfl, rfl, hB2⟩ := hq2
  show RS _ _ _ _ _ [.inl _, .inl _] _
  have p := p_undo hS h hB1 hB2
  refine r_icmp_eqv (pc' := 1191) rfl rfl p.1 ?_
  exact K _ hB2 p.2.1 (hz2.trans hz1)
theorem lw_keep {d : Nat} {Q : rQ} {S : rS} {i : Int} (hd : 10 ≤ d) (hS : Bd S) (h : IV S S) (hi : 0 ≤ i ∧ i + 6 ≤ S (-2) (-1)) (K : ∀ S', Bd S' → IV S' S' → S' (-2) = S (-2) → RS d 0 Q 1191 (LL i) [] S') : RS d 0 Q 540 (LL i) [] S := by
  refine r_aload (pc' := 541) rfl rfl rfl ?_
  refine r_aload (pc' := 542) rfl rfl rfl ?_
  refine r_iload (pc' := 543) rfl rfl rfl ?_
  refine r_const (pc' := 544) rfl rfl ?_
  refine r_iadd (pc' := 545) rfl rfl ?_
  refine r_salv (pc' := 546) (v := S (-2) (i + 1)) rfl rfl (by omega) rfl ?_
  refine q_call (pc' := 549) rfl rfl rfl (c_X10_keep hS (bdm hS _)) (by omega) rfl rfl (Nat.le_of_ble_eq_true rfl) (fun _ _ => ⟨_, _, rfl, rfl⟩) rfl ?_
  intro r1 T1 hq1 hz1
  obtain ⟨rfl, rfl, hB1⟩ := hq1
  show RS _ _ _ _ _ [.inl _] _
  refine r_aload (pc' := 550) rfl rfl rfl ?_
  refine r_aload (pc' := 551) rfl rfl rfl ?_
  refine r_iload (pc' := 552) rfl rfl rfl ?_
  refine r_const (pc' := 553) rfl rfl ?_
  refine r_iadd (pc' := 554) rfl rfl ?_
  refine r_salv (pc' := 555) (v := S (-2) (i + 1)) rfl rfl (by rw [hz1]; omega) (congrFun hz1 _) ?_
  refine q_call (pc' := 558) rfl rfl rfl (c_X11_keep hB1 (bdm hS _)) (by omega) rfl rfl (Nat.le_of_ble_eq_true rfl) (fun _ _ => ⟨_, _, rfl, rfl⟩) rfl ?_
  intro r2 T2 hq2 hz2
  obtain ⟨rfl, rfl, hB2⟩ := hq2
  show RS _ _ _ _ _ [.inl _, .inl _] _
  have p := p_keep hS h hB1 hB2
  refine r_icmp_eqv (pc' := 1191) rfl rfl p.1 ?_
  exact K _ hB2 p.2.1 (hz2.trans hz1)
theorem lw_back {d : Nat} {Q : rQ} {S : rS} {i : Int} (hd : 10 ≤ d) (hS : Bd S) (h : IV S S) (hi : 0 ≤ i ∧ i + 6 ≤ S (-2) (-1)) (K : ∀ S', Bd S' → IV S' S' → S' (-2) = S (-2) → RS d 0 Q 1191 (LL i) [] S') : RS d 0 Q 563 (LL i) [] S := by
  refine r_aload (pc' := 564) rfl rfl rfl ?_
  refine r_aload (pc' := 565) rfl rfl rfl ?_
  refine r_iload (pc' := 566) rfl rfl rfl ?_
  refine r_const (pc' := 567) rfl rfl ?_
  refine r_iadd (pc' := 568) rfl rfl ?_
  refine r_salv (pc' := 569) (v := S (-2) (i + 1)) rfl rfl (by omega) rfl ?_
  refine q_call (pc' := 572) rfl rfl rfl (c_X10_back hS (bdm hS _)) (by omega) rfl rfl (Nat.le_of_ble_eq_true rfl) (fun _ _ => ⟨_, _, rfl, rfl⟩) rfl ?_
  intro r1 T1 hq1 hz1
  obtain ⟨rfl, rfl, hB1⟩ := hq1
  show RS _ _ _ _ _ [.inl _] _
  refine r_aload (pc' := 573) rfl rfl rfl ?_
  refine r_aload (pc' := 574) rfl rfl rfl ?_
  refine r_iload (pc' := 575) rfl rfl rfl ?_
  refine r_const (pc' := 576) rfl rfl ?_
  refine r_iadd (pc' := 577) rfl rfl ?_
  refine r_salv (pc' := 578) (v := S (-2) (i + 1)) rfl rfl (by rw [hz1]; omega) (congrFun hz1 _) ?_
  refine q_call (pc' := 581) rfl rfl rfl (c_X11_back hB1 (bdm hS _)) (by omega) rfl rfl (Nat.le_of_ble_eq_true rfl) (fun _ _ => ⟨_, _, rfl, rfl⟩) rfl ?_
  intro r2 T2 hq2 hz2
  obtain ⟨rfl, rfl, hB2⟩ := hq2
  show RS _ _ _ _ _ [.inl _, .inl _] _
  have p := p_back hS h hB1 hB2
  refine r_icmp_eqv (pc' := 1191) rfl rfl p.1 ?_
  exact K _ hB2 p.2.1 (hz2.trans hz1)
theorem lw_far {d : Nat} {Q : rQ} {S : rS} {i : Int} (hd : 10 ≤ d) (hS : Bd S) (h : IV S S) (hi : 0 ≤ i ∧ i + 6 ≤ S (-2) (-1)) (K : ∀ S', Bd S' → IV S' S' → S' (-2) = S (-2) → RS d 0 Q 1191 (LL i) [] S') : RS d 0 Q 586 (LL i) [] S := by
  refine r_aload (pc' := 587) rfl rfl rfl ?_
  refine r_aload (pc' := 588) rfl rfl rfl ?_
  refine r_iload (pc' := 589) rfl rfl rfl ?_
  refine r_const (pc' := 590) rfl rfl ?_
  refine r_iadd (pc' := 591) rfl rfl ?_
  refine r_salv (pc' := 592) (v := S (-2) (i + 1)) rfl rfl (by omega) rfl ?_
  refine r_aload (pc' := 593) rfl rfl rfl ?_
  refine r_iload (pc' := 594) rfl rfl rfl ?_
  refine r_const (pc' := 595) rfl rfl ?_
  refine r_iadd (pc' := 596) rfl rfl ?_
  refine r_salv (pc' := 597) (v := S (-2) (i + 2)) rfl rfl (by omega) rfl ?_
  refine q_callE (pc' := 600) (st' := [.inl _]) rfl rfl rfl (c_X10_far hS (bdm hS _) (bdm hS _)) (by omega) rfl rfl (Nat.le_of_ble_eq_true rfl) (fun _ _ => ⟨_, _, rfl, rfl⟩) rfl rfl ?_
  refine r_aload (pc' := 601) rfl rfl rfl ?_
  refine r_aload (pc' := 602) rfl rfl rfl ?_
  refine r_iload (pc' := 603) rfl rfl rfl ?_
  refine r_const (pc' := 604) rfl rfl ?_
  refine r_iadd (pc' := 605) rfl rfl ?_
  refine r_salv (pc' := 606) (v := S (-2) (i + 1)) rfl rfl (by omega) rfl ?_
  refine r_aload (pc' := 607) rfl rfl rfl ?_
  refine r_iload (pc' := 608) rfl rfl rfl ?_
  refine r_const (pc' := 609) rfl rfl ?_
  refine r_iadd (pc' := 610) rfl rfl ?_
  refine r_salv (pc' := 611) (v := S (-2) (i + 2)) rfl rfl (by omega) rfl ?_
  refine q_callE (pc' := 614) (st' := [.inl _, .inl _]) rfl rfl rfl (c_X11_far hS (bdm hS _) (bdm hS _)) (by omega) rfl rfl (Nat.le_of_ble_eq_true rfl) (fun _ _ => ⟨_, _, rfl, rfl⟩) rfl rfl ?_
  refine r_icmp_eqv (pc' := 1191) rfl rfl (e_far hS hS h) ?_
  exact K S hS h rfl
theorem lw_whole {d : Nat} {Q : rQ} {S : rS} {i : Int} (hd : 10 ≤ d) (hS : Bd S) (h : IV S S) (hi : 0 ≤ i ∧ i + 6 ≤ S (-2) (-1)) (K : ∀ S', Bd S' → IV S' S' → S' (-2) = S (-2) → RS d 0 Q 1191 (LL i) [] S') : RS d 0 Q 619 (LL i) [] S := by
  refine r_aload (pc' := 620) rfl rfl rfl ?_
  refine r_aload (pc' := 621) rfl rfl rfl ?_
  refine r_iload (pc' := 622) rfl rfl rfl ?_
  refine r_const (pc' := 623) rfl rfl ?_
  refine r_iadd (pc' := 624) rfl rfl ?_
  refine r_salv (pc' := 625) (v := S (-2) (i + 1)) rfl rfl (by omega) rfl ?_
  refine q_callE (pc' := 628) (st' := [.inl _]) rfl rfl rfl (c_X10_whole hS (bdm hS _)) (by omega) rfl rfl (Nat.le_of_ble_eq_true rfl) (fun _ _ => ⟨_, _, rfl, rfl⟩) rfl rfl ?_
  refine r_aload (pc' := 629) rfl rfl rfl ?_
  refine r_aload (pc' := 630) rfl rfl rfl ?_
  refine r_iload (pc' := 631) rfl rfl rfl ?_
  refine r_const (pc' := 632) rfl rfl ?_
  refine r_iadd (pc' := 633) rfl rfl ?_
  refine r_salv (pc' := 634) (v := S (-2) (i + 1)) rfl rfl (by omega) rfl ?_
  refine q_callE (pc' := 637) (st' := [.inl _, .inl _]) rfl rfl rfl (c_X11_whole hS (bdm hS _)) (by omega) rfl rfl (Nat.le_of_ble_eq_true rfl) (fun _ _ => ⟨_, _, rfl, rfl⟩) rfl rfl ?_
  refine r_icmp_eqv (pc' := 1191) rfl rfl (e_whole hS hS h) ?_
  exact K S hS h rfl
theorem lw_before {d : Nat} {Q : rQ} {S : rS} {i : Int} (hd : 10 ≤ d) (hS : Bd S) (h : IV S S) (hi : 0 ≤ i ∧ i + 6 ≤ S (-2) (-1)) (K : ∀ S', Bd S' → IV S' S' → S' (-2) = S (-2) → RS d 0 Q 1191 (LL i) [] S') : RS d 0 Q 642 (LL i) [] S := by
  refine r_aload (pc' := 643) rfl rfl rfl ?_
  refine r_aload (pc' := 644) rfl rfl rfl ?_
  refine r_iload (pc' := 645) rfl rfl rfl ?_
  refine r_const (pc' := 646) rfl rfl ?_
  refine r_iadd (pc' := 647) rfl rfl ?_
  refine r_salv (pc' := 648) (v := S (-2) (i + 1)) rfl rfl (by omega) rfl ?_
  refine q_callE (pc' := 651) (st' := [.inl _]) rfl rfl rfl (c_X10_before hS (bdm hS _)) (by omega) rfl rfl (Nat.le_of_ble_eq_true rfl) (fun _ _ => ⟨_, _, rfl, rfl⟩) rfl rfl ?_
  refine r_aload (pc' := 652) rfl rfl rfl ?_
  refine r_aload (pc' := 653) rfl rfl rfl ?_
  refine r_iload (pc' := 654) rfl rfl rfl ?_
  refine r_const (pc' := 655) rfl rfl ?_
  refine r_iadd (pc' := 656) rfl rfl ?_
  refine r_salv (pc' := 657) (v := S (-2) (i + 1)) rfl rfl (by omega) rfl ?_
  refine q_callE (pc' := 660) (st' := [.inl _, .inl _]) rfl rfl rfl (c_X11_before hS (bdm hS _)) (by omega) rfl rfl (Nat.le_of_ble_eq_true rfl) (fun _ _ => ⟨_, _, rfl, rfl⟩) rfl rfl ?_
  refine r_icmp_eqv (pc' := 1191) rfl rfl (e_before hS hS h) ?_
  exact K S hS h rfl
theorem lw_feast {d : Nat} {Q : rQ} {S : rS} {i : Int} (hd : 10 ≤ d) (hS : Bd S) (h : IV S S) (hi : 0 ≤ i ∧ i + 6 ≤ S (-2) (-1)) (K : ∀ S', Bd S' → IV S' S' → S' (-2) = S (-2) → RS d 0 Q 1191 (LL i) [] S') : RS d 0 Q 665 (LL i) [] S := by
  refine r_aload (pc' := 666) rfl rfl rfl ?_
  refine r_aload (pc' := 667) rfl rfl rfl ?_
  refine r_iload (pc' := 668) rfl rfl rfl ?_
  refine r_const (pc' := 669) rfl rfl ?_
  refine r_iadd (pc' := 670) rfl rfl ?_
  refine r_salv (pc' := 671) (v := S (-2) (i + 1)) rfl rfl (by omega) rfl ?_
  refine q_call (pc' := 674) rfl rfl rfl (c_X10_feast hS (bdm hS _)) (by omega) rfl rfl (Nat.le_of_ble_eq_true rfl) (fun _ _ => ⟨_, _, rfl, rfl⟩) rfl ?_
  intro r1 T1 hq1 hz1
  obtain ⟨hB1, v1, rfl⟩ := g_feast hS (k := S (-2) (i + 1)) hq1
  show RS _ _ _ _ _ [.inl v1] _
  refine r_aload (pc' := 675) rfl rfl rfl ?_
  refine r_aload (pc' := 676) rfl rfl rfl ?_
  refine r_iload (pc' := 677) rfl rfl rfl ?_
  refine r_const (pc' := 678) rfl rfl ?_
  refine r_iadd (pc' := 679) rfl rfl ?_
  refine r_salv (pc' := 680) (v := S (-2) (i + 1)) rfl rfl (by rw [hz1]; omega) (congrFun hz1 _) ?_
  refine q_call (pc' := 683) rfl rfl rfl (c_X11_feast hB1 (bdm hS _)) (by omega) rfl rfl (Nat.le_of_ble_eq_true rfl) (fun _ _ => ⟨_, _, rfl, rfl⟩) rfl ?_
  intro r2 T2 hq2 hz2
  obtain ⟨rfl, hB2, hL⟩ := p_feast hS h hB1 (k := S (-2) (i + 1)) hq1 hq2
  show RS _ _ _ _ _ [.inl v1, .inl v1] _
  refine r_icmp_eqv (pc' := 1191) rfl rfl rfl ?_
  exact K _ hB2 hL.1 (hz2.trans hz1)
theorem lw_least {d : Nat} {Q : rQ} {S : rS} {i : Int} (hd : 10 ≤ d) (hS : Bd S) (h : IV S S) (hi : 0 ≤ i ∧ i + 6 ≤ S (-2) (-1)) (K : ∀ S', Bd S' → IV S' S' → S' (-2) = S (-2) → RS d 0 Q 1191 (LL i) [] S') : RS d 0 Q 688 (LL i) [] S := by
  refine r_aload (pc' := 689) rfl rfl rfl ?_
  refine r_aload (pc' := 690) rfl rfl rfl ?_
  refine r_iload (pc' := 691) rfl rfl rfl ?_
  refine r_const (pc' := 692) rfl rfl ?_
  refine r_iadd (pc' := 693) rfl rfl ?_
  refine r_salv (pc' := 694) (v := S (-2) (i + 1)) rfl rfl (by omega) rfl ?_
  refine q_callE (pc' := 697) (st' := [.inl _]) rfl rfl rfl (c_X10_least hS (bdm hS _)) (by omega) rfl rfl (Nat.le_of_ble_eq_true rfl) (fun _ _ => ⟨_, _, rfl, rfl⟩) rfl rfl ?_
  refine r_aload (pc' := 698) rfl rfl rfl ?_
  refine r_aload (pc' := 699) rfl rfl rfl ?_
  refine r_iload (pc' := 700) rfl rfl rfl ?_
  refine r_const (pc' := 701) rfl rfl ?_
  refine r_iadd (pc' := 702) rfl rfl ?_
  refine r_salv (pc' := 703) (v := S (-2) (i + 1)) rfl rfl (by omega) rfl ?_
  refine q_callE (pc' := 706) (st' := [.inl _, .inl _]) rfl rfl rfl (c_X11_least hS (bdm hS _)) (by omega) rfl rfl (Nat.le_of_ble_eq_true rfl) (fun _ _ => ⟨_, _, rfl, rfl⟩) rfl rfl ?_
  refine r_icmp_eqv (pc' := 1191) rfl rfl (e_least hS hS h) ?_
  exact K S hS h rfl
theorem lw_could {d : Nat} {Q : rQ} {S : rS} {i : Int} (hd : 10 ≤ d) (hS : Bd S) (h : IV S S) (hi : 0 ≤ i ∧ i + 6 ≤ S (-2) (-1)) (K : ∀ S', Bd S' → IV S' S' → S' (-2) = S (-2) → RS d 0 Q 1191 (LL i) [] S') : RS d 0 Q 711 (LL i) [] S := by
  refine r_aload (pc' := 712) rfl rfl rfl ?_
  refine r_aload (pc' := 713) rfl rfl rfl ?_
  refine r_iload (pc' := 714) rfl rfl rfl ?_
  refine r_const (pc' := 715) rfl rfl ?_
  refine r_iadd (pc' := 716) rfl rfl ?_
  refine r_salv (pc' := 717) (v := S (-2) (i + 1)) rfl rfl (by omega) rfl ?_
  refine r_aload (pc' := 718) rfl rfl rfl ?_
  refine r_iload (pc' := 719) rfl rfl rfl ?_
  refine r_const (pc' := 720) rfl rfl ?_
  refine r_iadd (pc' := 721) rfl rfl ?_
  refine r_salv (pc' := 722) (v := S (-2) (i + 2)) rfl rfl (by omega) rfl ?_
  refine q_callE (pc' := 725) (st' := [.inl _]) rfl rfl rfl (c_X10_could hS (bdm hS _) (bdm hS _)) (by omega) rfl rfl (Nat.le_of_ble_eq_true rfl) (fun _ _ => ⟨_, _, rfl, rfl⟩) rfl rfl ?_
  refine r_aload (pc' := 726) rfl rfl rfl ?_
  refine r_aload (pc' := 727) rfl rfl rfl ?_
  refine r_iload (pc' := 728) rfl rfl rfl ?_
  refine r_const (pc' := 729) rfl rfl ?_
  refine r_iadd (pc' := 730) rfl rfl ?_
  refine r_salv (pc' := 731) (v := S (-2) (i + 1)) rfl rfl (by omega) rfl ?_
  refine r_aload (pc' := 732) rfl rfl rfl ?_
  refine r_iload (pc' := 733) rfl rfl rfl ?_
  refine r_const (pc' := 734) rfl rfl ?_
  refine r_iadd (pc' := 735) rfl rfl ?_
  refine r_salv (pc' := 736) (v := S (-2) (i + 2)) rfl rfl (by omega) rfl ?_
  refine q_callE (pc' := 739) (st' := [.inl _, .inl _]) rfl rfl rfl (c_X11_could hS (bdm hS _) (bdm hS _)) (by omega) rfl rfl (Nat.le_of_ble_eq_true rfl) (fun _ _ => ⟨_, _, rfl, rfl⟩) rfl rfl ?_
  refine r_icmp_eqv (pc' := 1191) rfl rfl (e_could hS hS h) ?_
  exact K S hS h rfl
theorem lw_which {d : Nat} {Q : rQ} {S : rS} {i : Int} (hd : 10 ≤ d) (hS : Bd S) (h : IV S S) (hi : 0 ≤ i ∧ i + 6 ≤ S (-2) (-1)) (K : ∀ S', Bd S' → IV S' S' → S' (-2) = S (-2) → RS d 0 Q 1191 (LL i) [] S') : RS d 0 Q 744 (LL i) [] S := by
  refine r_aload (pc' := 745) rfl rfl rfl ?_
  refine r_aload (pc' := 746) rfl rfl rfl ?_
  refine r_iload (pc' := 747) rfl rfl rfl ?_
  refine r_const (pc' := 748) rfl rfl ?_
  refine r_iadd (pc' := 749) rfl rfl ?_
  refine r_salv (pc' := 750) (v := S (-2) (i + 1)) rfl rfl (by omega) rfl ?_
  refine r_aload (pc' := 751) rfl rfl rfl ?_
  refine r_iload (pc' := 752) rfl rfl rfl ?_
  refine r_const (pc' := 753) rfl rfl ?_
  refine r_iadd (pc' := 754) rfl rfl ?_
  refine r_salv (pc' := 755) (v := S (-2) (i + 2)) rfl rfl (by omega) rfl ?_
  refine q_callE (pc' := 758) (st' := [.inl _]) rfl rfl rfl (c_X10_which hS (bdm hS _) (bdm hS _)) (by omega) rfl rfl (Nat.le_of_ble_eq_true rfl) (fun _ _ => ⟨_, _, rfl, rfl⟩) rfl rfl ?_
  refine r_aload (pc' := 759) rfl rfl rfl ?_
  refine r_aload (pc' := 760) rfl rfl rfl ?_
  refine r_iload (pc' := 761) rfl rfl rfl ?_
  refine r_const (pc' := 762) rfl rfl ?_
  refine r_iadd (pc' := 763) rfl rfl ?_
  refine r_salv (pc' := 764) (v := S (-2) (i + 1)) rfl rfl (by omega) rfl ?_
  refine r_aload (pc' := 765) rfl rfl rfl ?_
  refine r_iload (pc' := 766) rfl rfl rfl ?_
  refine r_const (pc' := 767) rfl rfl ?_
  refine r_iadd (pc' := 768) rfl rfl ?_
  refine r_salv (pc' := 769) (v := S (-2) (i + 2)) rfl rfl (by omega) rfl ?_
  refine q_callE (pc' := 772) (st' := [.inl _, .inl _]) rfl rfl rfl (c_X11_which hS (bdm hS _) (bdm hS _)) (by omega) rfl rfl (Nat.le_of_ble_eq_true rfl) (fun _ _ => ⟨_, _, rfl, rfl⟩) rfl rfl ?_
  refine r_icmp_eqv (pc' := 1191) rfl rfl (e_which hS hS h) ?_
  exact K S hS h rfl
theorem lw_seen {d : Nat} {Q : rQ} {S : rS} {i : Int} (hd : 10 ≤ d) (hS : Bd S) (h : IV S S) (hi : 0 ≤ i ∧ i + 6 ≤ S (-2) (-1)) (K : ∀ S', Bd S' → IV S' S' → S' (-2) = S (-2) → RS d 0 Q 1191 (LL i) [] S') : RS d 0 Q 777 (LL i) [] S := by
  refine r_aload (pc' := 778) rfl rfl rfl ?_
  refine r_aload (pc' := 779) rfl rfl rfl ?_
  refine r_iload (pc' := 780) rfl rfl rfl ?_
  refine r_const (pc' := 781) rfl rfl ?_
  refine r_iadd (pc' := 782) rfl rfl ?_
  refine r_salv (pc' := 783) (v := S (-2) (i + 1)) rfl rfl (by omega) rfl ?_
  refine r_aload (pc' := 784) rfl rfl rfl ?_
  refine r_iload (pc' := 785) rfl rfl rfl ?_
  refine r_const (pc' := 786) rfl rfl ?_
  refine r_iadd (pc' := 787) rfl rfl ?_
  refine r_salv (pc' := 788) (v := S (-2) (i + 2)) rfl rfl (by omega) rfl ?_
  refine r_aload (pc' := 789) rfl rfl rfl ?_
  refine r_iload (pc' := 790) rfl rfl rfl ?_
  refine r_const (pc' := 791) rfl rfl ?_
  refine r_iadd (pc' := 792) rfl rfl ?_
  refine r_salv (pc' := 793) (v := S (-2) (i + 3)) rfl rfl (by omega) rfl ?_
  refine q_call (pc' := 796) rfl rfl rfl (c_X10_seen hS (bdm hS _) (bdm hS _) (bdm hS _)) (by omega) rfl rfl (Nat.le_of_ble_eq_true rfl) (fun _ _ => ⟨_, _, rfl, rfl⟩) rfl ?_
  intro r1 T1 hq1 hz1
  obtain ⟨rfl, rfl, hB1⟩ := hq1
  show RS _ _ _ _ _ [.inl _] _
  refine r_aload (pc' := 797) rfl rfl rfl ?_
  refine r_aload (pc' := 798) rfl rfl rfl ?_
  refine r_iload (pc' := 799) rfl rfl rfl ?_
  refine r_const (pc' := 800) rfl rfl ?_
  refine r_iadd (pc' := 801) rfl rfl ?_
  refine r_salv (pc' := 802) (v := S (-2) (i + 1)) rfl rfl (by rw [hz1]; omega) (congrFun hz1 _) ?_
  refine r_aload (pc' := 803) rfl rfl rfl ?_
  refine r_iload (pc' := 804) rfl rfl rfl ?_
  refine r_const (pc' := 805) rfl rfl ?_
  refine r_iadd (pc' := 806) rfl rfl ?_
  refine r_salv (pc' := 807) (v := S (-2) (i + 2)) rfl rfl (by rw [hz1]; omega) (congrFun hz1 _) ?_
  refine r_aload (pc' := 808) rfl rfl rfl ?_
  refine r_iload (pc' := 809) rfl rfl rfl ?_
  refine r_const (pc' := 810) rfl rfl ?_
  refine r_iadd (pc' := 811) rfl rfl ?_
  refine r_salv (pc' := 812) (v := S (-2) (i + 3)) rfl rfl (by rw [hz1]; omega) (congrFun hz1 _) ?_
  refine q_call (pc' := 815) rfl rfl rfl (c_X11_seen hB1 (bdm hS _) (bdm hS _) (bdm hS _)) (by omega) rfl rfl (Nat.le_of_ble_eq_true rfl) (fun _ _ => ⟨_, _, rfl, rfl⟩) rfl ?_
  intro r2 T2 hq2 hz2
  obtain ⟨rfl, rfl, hB2⟩ := hq2
  show RS _ _ _ _ _ [.inl _, .inl _] _
  have p := p_seen hS h hB1 hB2
  refine r_icmp_eqv (pc' := 1191) rfl rfl p.1 ?_
  exact K _ hB2 p.2.1 (hz2.trans hz1)
theorem lw_forget {d : Nat} {Q : rQ} {S : rS} {i : Int} (hd : 10 ≤ d) (hS : Bd S) (h : IV S S) (hi : 0 ≤ i ∧ i + 6 ≤ S (-2) (-1)) (K : ∀ S', Bd S' → IV S' S' → S' (-2) = S (-2) → RS d 0 Q 1191 (LL i) [] S') : RS d 0 Q 820 (LL i) [] S := by
  refine r_aload (pc' := 821) rfl rfl rfl ?_
  refine q_call (pc' := 824) rfl rfl rfl (c_X10_forget hS) (by omega) rfl rfl (Nat.le_of_ble_eq_true rfl) (fun _ _ => ⟨_, _, rfl, rfl⟩) rfl ?_
  intro r1 T1 hq1 hz1
  obtain ⟨rfl, rfl, hB1⟩ := hq1
  show RS _ _ _ _ _ [.inl _] _
  refine r_aload (pc' := 825) rfl rfl rfl ?_
  refine q_call (pc' := 828) rfl rfl rfl (c_X11_forget hB1) (by omega) rfl rfl (Nat.le_of_ble_eq_true rfl) (fun _ _ => ⟨_, _, rfl, rfl⟩) rfl ?_
  intro r2 T2 hq2 hz2
  obtain ⟨rfl, rfl, hB2⟩ := hq2
  show RS _ _ _ _ _ [.inl _, .inl _] _
  have p := p_forget hS h hB1 hB2
  refine r_icmp_eqv (pc' := 1191) rfl rfl p.1 ?_
  exact K _ hB2 p.2.1 (hz2.trans hz1)
theorem lw_kinds {d : Nat} {Q : rQ} {S : rS} {i : Int} (hd : 10 ≤ d) (hS : Bd S) (h : IV S S) (hi : 0 ≤ i ∧ i + 6 ≤ S (-2) (-1)) (K : ∀ S', Bd S' → IV S' S' → S' (-2) = S (-2) → RS d 0 Q 1191 (LL i) [] S') : RS d 0 Q 833 (LL i) [] S := by
  refine r_aload (pc' := 834) rfl rfl rfl ?_
  refine r_aload (pc' := 835) rfl rfl rfl ?_
  refine r_iload (pc' := 836) rfl rfl rfl ?_
  refine r_const (pc' := 837) rfl rfl ?_
  refine r_iadd (pc' := 838) rfl rfl ?_
  refine r_salv (pc' := 839) (v := S (-2) (i + 1)) rfl rfl (by omega) rfl ?_
  refine q_callE (pc' := 842) (st' := [.inl _]) rfl rfl rfl (c_X10_kinds hS (bdm hS _)) (by omega) rfl rfl (Nat.le_of_ble_eq_true rfl) (fun _ _ => ⟨_, _, rfl, rfl⟩) rfl rfl ?_
  refine r_aload (pc' := 843) rfl rfl rfl ?_
  refine r_aload (pc' := 844) rfl rfl rfl ?_
  refine r_iload (pc' := 845) rfl rfl rfl ?_
  refine r_const (pc' := 846) rfl rfl ?_
  refine r_iadd (pc' := 847) rfl rfl ?_
  refine r_salv (pc' := 848) (v := S (-2) (i + 1)) rfl rfl (by omega) rfl ?_
  refine q_callE (pc' := 851) (st' := [.inl _, .inl _]) rfl rfl rfl (c_X11_kinds hS (bdm hS _)) (by omega) rfl rfl (Nat.le_of_ble_eq_true rfl) (fun _ _ => ⟨_, _, rfl, rfl⟩) rfl rfl ?_
  refine r_icmp_eqv (pc' := 1191) rfl rfl (e_kinds hS hS h) ?_
  exact K S hS h rfl
theorem lw_odds {d : Nat} {Q : rQ} {S : rS} {i : Int} (hd : 10 ≤ d) (hS : Bd S) (h : IV S S) (hi : 0 ≤ i ∧ i + 6 ≤ S (-2) (-1)) (K : ∀ S', Bd S' → IV S' S' → S' (-2) = S (-2) → RS d 0 Q 1191 (LL i) [] S') : RS d 0 Q 856 (LL i) [] S := by
  refine r_aload (pc' := 857) rfl rfl rfl ?_
  refine r_aload (pc' := 858) rfl rfl rfl ?_
  refine r_iload (pc' := 859) rfl rfl rfl ?_
  refine r_const (pc' := 860) rfl rfl ?_
  refine r_iadd (pc' := 861) rfl rfl ?_
  refine r_salv (pc' := 862) (v := S (-2) (i + 1)) rfl rfl (by omega) rfl ?_
  refine r_aload (pc' := 863) rfl rfl rfl ?_
  refine r_iload (pc' := 864) rfl rfl rfl ?_
  refine r_const (pc' := 865) rfl rfl ?_
  refine r_iadd (pc' := 866) rfl rfl ?_
  refine r_salv (pc' := 867) (v := S (-2) (i + 2)) rfl rfl (by omega) rfl ?_
  refine r_aload (pc' := 868) rfl rfl rfl ?_
  refine r_iload (pc' := 869) rfl rfl rfl ?_
  refine r_const (pc' := 870) rfl rfl ?_
  refine r_iadd (pc' := 871) rfl rfl ?_
  refine r_salv (pc' := 872) (v := S (-2) (i + 3)) rfl rfl (by omega) rfl ?_
  refine r_aload (pc' := 873) rfl rfl rfl ?_
  refine r_iload (pc' := 874) rfl rfl rfl ?_
  refine r_const (pc' := 875) rfl rfl ?_
  refine r_iadd (pc' := 876) rfl rfl ?_
  refine r_salv (pc' := 877) (v := S (-2) (i + 4)) rfl rfl (by omega) rfl ?_
  refine q_callE (pc' := 880) (st' := [.inl _]) rfl rfl rfl (c_X10_odds hS (bdm hS _) (bdm hS _) (bdm hS _) (bdm hS _)) (by omega) rfl rfl (Nat.le_of_ble_eq_true rfl) (fun _ _ => ⟨_, _, rfl, rfl⟩) rfl rfl ?_
  refine r_aload (pc' := 881) rfl rfl rfl ?_
  refine r_aload (pc' := 882) rfl rfl rfl ?_
  refine r_iload (pc' := 883) rfl rfl rfl ?_
  refine r_const (pc' := 884) rfl rfl ?_
  refine r_iadd (pc' := 885) rfl rfl ?_
  refine r_salv (pc' := 886) (v := S (-2) (i + 1)) rfl rfl (by omega) rfl ?_
  refine r_aload (pc' := 887) rfl rfl rfl ?_
  refine r_iload (pc' := 888) rfl rfl rfl ?_
  refine r_const (pc' := 889) rfl rfl ?_
  refine r_iadd (pc' := 890) rfl rfl ?_
  refine r_salv (pc' := 891) (v := S (-2) (i + 2)) rfl rfl (by omega) rfl ?_
  refine r_aload (pc' := 892) rfl rfl rfl ?_
  refine r_iload (pc' := 893) rfl rfl rfl ?_
  refine r_const (pc' := 894) rfl rfl ?_
  refine r_iadd (pc' := 895) rfl rfl ?_
  refine r_salv (pc' := 896) (v := S (-2) (i + 3)) rfl rfl (by omega) rfl ?_
  refine r_aload (pc' := 897) rfl rfl rfl ?_
  refine r_iload (pc' := 898) rfl rfl rfl ?_
  refine r_const (pc' := 899) rfl rfl ?_
  refine r_iadd (pc' := 900) rfl rfl ?_
  refine r_salv (pc' := 901) (v := S (-2) (i + 4)) rfl rfl (by omega) rfl ?_
  refine q_callE (pc' := 904) (st' := [.inl _, .inl _]) rfl rfl rfl (c_X11_odds hS (bdm hS _) (bdm hS _) (bdm hS _) (bdm hS _)) (by omega) rfl rfl (Nat.le_of_ble_eq_true rfl) (fun _ _ => ⟨_, _, rfl, rfl⟩) rfl rfl ?_
  refine r_icmp_eqv (pc' := 1191) rfl rfl (e_odds hS hS h) ?_
  exact K S hS h rfl
theorem lw_shelf {d : Nat} {Q : rQ} {S : rS} {i : Int} (hd : 10 ≤ d) (hS : Bd S) (h : IV S S) (hi : 0 ≤ i ∧ i + 6 ≤ S (-2) (-1)) (K : ∀ S', Bd S' → IV S' S' → S' (-2) = S (-2) → RS d 0 Q 1191 (LL i) [] S') : RS d 0 Q 909 (LL i) [] S := by
  refine r_aload (pc' := 910) rfl rfl rfl ?_
  refine r_aload (pc' := 911) rfl rfl rfl ?_
  refine r_iload (pc' := 912) rfl rfl rfl ?_
  refine r_const (pc' := 913) rfl rfl ?_
  refine r_iadd (pc' := 914) rfl rfl ?_
  refine r_salv (pc' := 915) (v := S (-2) (i + 1)) rfl rfl (by omega) rfl ?_
  refine r_aload (pc' := 916) rfl rfl rfl ?_
  refine r_iload (pc' := 917) rfl rfl rfl ?_
  refine r_const (pc' := 918) rfl rfl ?_
  refine r_iadd (pc' := 919) rfl rfl ?_
  refine r_salv (pc' := 920) (v := S (-2) (i + 2)) rfl rfl (by omega) rfl ?_
  refine r_aload (pc' := 921) rfl rfl rfl ?_
  refine r_iload (pc' := 922) rfl rfl rfl ?_
  refine r_const (pc' := 923) rfl rfl ?_
  refine r_iadd (pc' := 924) rfl rfl ?_
  refine r_salv (pc' := 925) (v := S (-2) (i + 3)) rfl rfl (by omega) rfl ?_
  refine q_call (pc' := 928) rfl rfl rfl (c_X10_shelf hS (bdm hS _) (bdm hS _) (bdm hS _)) (by omega) rfl rfl (Nat.le_of_ble_eq_true rfl) (fun _ _ => ⟨_, _, rfl, rfl⟩) rfl ?_
  intro r1 T1 hq1 hz1
  obtain ⟨rfl, rfl, hB1⟩ := hq1
  show RS _ _ _ _ _ [.inl _] _
  refine r_aload (pc' := 929) rfl rfl rfl ?_
  refine r_aload (pc' := 930) rfl rfl rfl ?_
  refine r_iload (pc' := 931) rfl rfl rfl ?_
  refine r_const (pc' := 932) rfl rfl ?_
  refine r_iadd (pc' := 933) rfl rfl ?_
  refine r_salv (pc' := 934) (v := S (-2) (i + 1)) rfl rfl (by rw [hz1]; omega) (congrFun hz1 _) ?_
  refine r_aload (pc' := 935) rfl rfl rfl ?_
  refine r_iload (pc' := 936) rfl rfl rfl ?_
  refine r_const (pc' := 937) rfl rfl ?_
  refine r_iadd (pc' := 938) rfl rfl ?_
  refine r_salv (pc' := 939) (v := S (-2) (i + 2)) rfl rfl (by rw [hz1]; omega) (congrFun hz1 _) ?_
  refine r_aload (pc' := 940) rfl rfl rfl ?_
  refine r_iload (pc' := 941) rfl rfl rfl ?_
  refine r_const (pc' := 942) rfl rfl ?_
  refine r_iadd (pc' := 943) rfl rfl ?_
  refine r_salv (pc' := 944) (v := S (-2) (i + 3)) rfl rfl (by rw [hz1]; omega) (congrFun hz1 _) ?_
  refine q_call (pc' := 947) rfl rfl rfl (c_X11_shelf hB1 (bdm hS _) (bdm hS _) (bdm hS _)) (by omega) rfl rfl (Nat.le_of_ble_eq_true rfl) (fun _ _ => ⟨_, _, rfl, rfl⟩) rfl ?_
  intro r2 T2 hq2 hz2
  obtain ⟨rfl, rfl, hB2⟩ := hq2
  show RS _ _ _ _ _ [.inl _, .inl _] _
  have p := p_shelf hS h hB1 hB2
  refine r_icmp_eqv (pc' := 1191) rfl rfl p.1 ?_
  exact K _ hB2 p.2.1 (hz2.trans hz1)
theorem lw_lay {d : Nat} {Q : rQ} {S : rS} {i : Int} (hd : 10 ≤ d) (hS : Bd S) (h : IV S S) (hi : 0 ≤ i ∧ i + 6 ≤ S (-2) (-1)) (K : ∀ S', Bd S' → IV S' S' → S' (-2) = S (-2) → RS d 0 Q 1191 (LL i) [] S') : RS d 0 Q 952 (LL i) [] S := by
  refine r_aload (pc' := 953) rfl rfl rfl ?_
  refine r_aload (pc' := 954) rfl rfl rfl ?_
  refine r_iload (pc' := 955) rfl rfl rfl ?_
  refine r_const (pc' := 956) rfl rfl ?_
  refine r_iadd (pc' := 957) rfl rfl ?_
  refine r_salv (pc' := 958) (v := S (-2) (i + 1)) rfl rfl (by omega) rfl ?_
  refine r_aload (pc' := 959) rfl rfl rfl ?_
  refine r_iload (pc' := 960) rfl rfl rfl ?_
  refine r_const (pc' := 961) rfl rfl ?_
  refine r_iadd (pc' := 962) rfl rfl ?_
  refine r_salv (pc' := 963) (v := S (-2) (i + 2)) rfl rfl (by omega) rfl ?_
  refine r_aload (pc' := 964) rfl rfl rfl ?_
  refine r_iload (pc' := 965) rfl rfl rfl ?_
  refine r_const (pc' := 966) rfl rfl ?_
  refine r_iadd (pc' := 967) rfl rfl ?_
  refine r_salv (pc' := 968) (v := S (-2) (i + 3)) rfl rfl (by omega) rfl ?_
  refine r_aload (pc' := 969) rfl rfl rfl ?_
  refine r_iload (pc' := 970) rfl rfl rfl ?_
  refine r_const (pc' := 971) rfl rfl ?_
  refine r_iadd (pc' := 972) rfl rfl ?_
  refine r_salv (pc' := 973) (v := S (-2) (i + 4)) rfl rfl (by omega) rfl ?_
  refine q_call (pc' := 976) rfl rfl rfl (c_X10_lay hS (bdm hS _) (bdm hS _) (bdm hS _) (bdm hS _)) (by omega) rfl rfl (Nat.le_of_ble_eq_true rfl) (fun _ _ => ⟨_, _, rfl, rfl⟩) rfl ?_
  intro r1 T1 hq1 hz1
  obtain ⟨rfl, rfl, hB1⟩ := hq1
  show RS _ _ _ _ _ [.inl _] _
  refine r_aload (pc' := 977) rfl rfl rfl ?_
  refine r_aload (pc' := 978) rfl rfl rfl ?_
  refine r_iload (pc' := 979) rfl rfl rfl ?_
  refine r_const (pc' := 980) rfl rfl ?_
  refine r_iadd (pc' := 981) rfl rfl ?_
  refine r_salv (pc' := 982) (v := S (-2) (i + 1)) rfl rfl (by rw [hz1]; omega) (congrFun hz1 _) ?_
  refine r_aload (pc' := 983) rfl rfl rfl ?_
  refine r_iload (pc' := 984) rfl rfl rfl ?_
  refine r_const (pc' := 985) rfl rfl ?_
  refine r_iadd (pc' := 986) rfl rfl ?_
  refine r_salv (pc' := 987) (v := S (-2) (i + 2)) rfl rfl (by rw [hz1]; omega) (congrFun hz1 _) ?_
  refine r_aload (pc' := 988) rfl rfl rfl ?_
  refine r_iload (pc' := 989) rfl rfl rfl ?_
  refine r_const (pc' := 990) rfl rfl ?_
  refine r_iadd (pc' := 991) rfl rfl ?_
  refine r_salv (pc' := 992) (v := S (-2) (i + 3)) rfl rfl (by rw [hz1]; omega) (congrFun hz1 _) ?_
  refine r_aload (pc' := 993) rfl rfl rfl ?_
  refine r_iload (pc' := 994) rfl rfl rfl ?_
  refine r_const (pc' := 995) rfl rfl ?_
  refine r_iadd (pc' := 996) rfl rfl ?_
  refine r_salv (pc' := 997) (v := S (-2) (i + 4)) rfl rfl (by rw [hz1]; omega) (congrFun hz1 _) ?_
  refine q_call (pc' := 1000) rfl rfl rfl (c_X11_lay hB1 (bdm hS _) (bdm hS _) (bdm hS _) (bdm hS _)) (by omega) rfl rfl (Nat.le_of_ble_eq_true rfl) (fun _ _ => ⟨_, _, rfl, rfl⟩) rfl ?_
  intro r2 T2 hq2 hz2
  obtain ⟨rfl, rfl, hB2⟩ := hq2
  show RS _ _ _ _ _ [.inl _, .inl _] _
  have p := p_lay hS h hB1 hB2
  refine r_icmp_eqv (pc' := 1191) rfl rfl p.1 ?_
  exact K _ hB2 p.2.1 (hz2.trans hz1)
theorem lw_look {d : Nat} {Q : rQ} {S : rS} {i : Int} (hd : 10 ≤ d) (hS : Bd S) (h : IV S S) (hi : 0 ≤ i ∧ i + 6 ≤ S (-2) (-1)) (K : ∀ S', Bd S' → IV S' S' → S' (-2) = S (-2) → RS d 0 Q 1191 (LL i) [] S') : RS d 0 Q 1005 (LL i) [] S := by
  refine r_aload (pc' := 1006) rfl rfl rfl ?_
  refine r_aload (pc' := 1007) rfl rfl rfl ?_
  refine r_iload (pc' := 1008) rfl rfl rfl ?_
  refine r_const (pc' := 1009) rfl rfl ?_
  refine r_iadd (pc' := 1010) rfl rfl ?_
  refine r_salv (pc' := 1011) (v := S (-2) (i + 1)) rfl rfl (by omega) rfl ?_
  refine r_aload (pc' := 1012) rfl rfl rfl ?_
  refine r_iload (pc' := 1013) rfl rfl rfl ?_
  refine r_const (pc' := 1014) rfl rfl ?_
  refine r_iadd (pc' := 1015) rfl rfl ?_
  refine r_salv (pc' := 1016) (v := S (-2) (i + 2)) rfl rfl (by omega) rfl ?_
  refine q_callE (pc' := 1019) (st' := [.inr (.inl _)]) rfl rfl rfl (c_X10_look hS (bdm hS _) (bdm hS _)) (by omega) rfl rfl (Nat.le_of_ble_eq_true rfl) (fun _ _ => ⟨_, _, rfl, rfl⟩) rfl rfl ?_
  refine r_aload (pc' := 1020) rfl rfl rfl ?_
  refine r_aload (pc' := 1021) rfl rfl rfl ?_
  refine r_iload (pc' := 1022) rfl rfl rfl ?_
  refine r_const (pc' := 1023) rfl rfl ?_
  refine r_iadd (pc' := 1024) rfl rfl ?_
  refine r_salv (pc' := 1025) (v := S (-2) (i + 1)) rfl rfl (by omega) rfl ?_
  refine r_aload (pc' := 1026) rfl rfl rfl ?_
  refine r_iload (pc' := 1027) rfl rfl rfl ?_
  refine r_const (pc' := 1028) rfl rfl ?_
  refine r_iadd (pc' := 1029) rfl rfl ?_
  refine r_salv (pc' := 1030) (v := S (-2) (i + 2)) rfl rfl (by omega) rfl ?_
  refine q_callE (pc' := 1033) (st' := [.inr (.inl _), .inr (.inl _)]) rfl rfl rfl (c_X11_look hS (bdm hS _) (bdm hS _)) (by omega) rfl rfl (Nat.le_of_ble_eq_true rfl) (fun _ _ => ⟨_, _, rfl, rfl⟩) rfl rfl ?_
  have eq := e_look hS hS h (s := S (-2) (i + 1)) (i := S (-2) (i + 2))
  refine r_lcmp (pc' := 1034) rfl rfl ⟨by rw [eq]; exact lk_r hS, lk_r hS⟩ ?_
  rw [show mx_cmp (v_X10_look S (S (-2) (i + 1)) (S (-2) (i + 2))) (v_X11_look S (S (-2) (i + 1)) (S (-2) (i + 2))) = 0 by rw [eq]; unfold mx_cmp; rw [if_neg (Int.lt_irrefl _), if_pos rfl]]
  refine r_if_eq1 (pc' := 1191) rfl rfl (by decide) rfl ?_
  exact K S hS h rfl
theorem lw_copy {d : Nat} {Q : rQ} {S : rS} {i : Int} (hd : 10 ≤ d) (hS : Bd S) (h : IV S S) (hi : 0 ≤ i ∧ i + 6 ≤ S (-2) (-1)) (K : ∀ S', Bd S' → IV S' S' → S' (-2) = S (-2) → RS d 0 Q 1191 (LL i) [] S') : RS d 0 Q 1039 (LL i) [] S := by
  refine r_aload (pc' := 1040) rfl rfl rfl ?_
  refine r_aload (pc' := 1041) rfl rfl rfl ?_
  refine r_iload (pc' := 1042) rfl rfl rfl ?_
  refine r_const (pc' := 1043) rfl rfl ?_
  refine r_iadd (pc' := 1044) rfl rfl ?_
  refine r_salv (pc' := 1045) (v := S (-2) (i + 1)) rfl rfl (by omega) rfl ?_
  refine r_aload (pc' := 1046) rfl rfl rfl ?_
  refine r_iload (pc' := 1047) rfl rfl rfl ?_
  refine r_const (pc' := 1048) rfl rfl ?_
  refine r_iadd (pc' := 1049) rfl rfl ?_
  refine r_salv (pc' := 1050) (v := S (-2) (i + 2)) rfl rfl (by omega) rfl ?_
  refine r_aload (pc' := 1051) rfl rfl rfl ?_
  refine r_iload (pc' := 1052) rfl rfl rfl ?_
  refine r_const (pc' := 1053) rfl rfl ?_
  refine r_iadd (pc' := 1054) rfl rfl ?_
  refine r_salv (pc' := 1055) (v := S (-2) (i + 3)) rfl rfl (by omega) rfl ?_
  refine r_aload (pc' := 1056) rfl rfl rfl ?_
  refine r_iload (pc' := 1057) rfl rfl rfl ?_
  refine r_const (pc' := 1058) rfl rfl ?_
  refine r_iadd (pc' := 1059) rfl rfl ?_
  refine r_salv (pc' := 1060) (v := S (-2) (i + 4)) rfl rfl (by omega) rfl ?_
  refine r_aload (pc' := 1061) rfl rfl rfl ?_
  refine r_iload (pc' := 1062) rfl rfl rfl ?_
  refine r_const (pc' := 1063) rfl rfl ?_
  refine r_iadd (pc' := 1064) rfl rfl ?_
  refine r_salv (pc' := 1065) (v := S (-2) (i + 5)) rfl rfl (by omega) rfl ?_
  refine q_call (pc' := 1068) rfl rfl rfl (c_X10_copy hS (bdm hS _) (bdm hS _) (bdm hS _) (bdm hS _) (bdm hS _)) (by omega) rfl rfl (Nat.le_of_ble_eq_true rfl) (fun _ _ => ⟨_, _, rfl, rfl⟩) rfl ?_
  intro r1 T1 hq1 hz1
  obtain ⟨rfl, rfl, hB1⟩ := hq1
  show RS _ _ _ _ _ [.inl _] _
  refine r_aload (pc' := 1069) rfl rfl rfl ?_
  refine r_aload (pc' := 1070) rfl rfl rfl ?_
  refine r_iload (pc' := 1071) rfl rfl rfl ?_
  refine r_const (pc' := 1072) rfl rfl ?_
  refine r_iadd (pc' := 1073) rfl rfl ?_
  refine r_salv (pc' := 1074) (v := S (-2) (i + 1)) rfl rfl (by rw [hz1]; omega) (congrFun hz1 _) ?_
  refine r_aload (pc' := 1075) rfl rfl rfl ?_
  refine r_iload (pc' := 1076) rfl rfl rfl ?_
  refine r_const (pc' := 1077) rfl rfl ?_
  refine r_iadd (pc' := 1078) rfl rfl ?_
  refine r_salv (pc' := 1079) (v := S (-2) (i + 2)) rfl rfl (by rw [hz1]; omega) (congrFun hz1 _) ?_
  refine r_aload (pc' := 1080) rfl rfl rfl ?_
  refine r_iload (pc' := 1081) rfl rfl rfl ?_
  refine r_const (pc' := 1082) rfl rfl ?_
  refine r_iadd (pc' := 1083) rfl rfl ?_
  refine r_salv (pc' := 1084) (v := S (-2) (i + 3)) rfl rfl (by rw [hz1]; omega) (congrFun hz1 _) ?_
  refine r_aload (pc' := 1085) rfl rfl rfl ?_
  refine r_iload (pc' := 1086) rfl rfl rfl ?_
  refine r_const (pc' := 1087) rfl rfl ?_
  refine r_iadd (pc' := 1088) rfl rfl ?_
  refine r_salv (pc' := 1089) (v := S (-2) (i + 4)) rfl rfl (by rw [hz1]; omega) (congrFun hz1 _) ?_
  refine r_aload (pc' := 1090) rfl rfl rfl ?_
  refine r_iload (pc' := 1091) rfl rfl rfl ?_
  refine r_const (pc' := 1092) rfl rfl ?_
  refine r_iadd (pc' := 1093) rfl rfl ?_
  refine r_salv (pc' := 1094) (v := S (-2) (i + 5)) rfl rfl (by rw [hz1]; omega) (congrFun hz1 _) ?_
  refine q_call (pc' := 1097) rfl rfl rfl (c_X11_copy hB1 (bdm hS _) (bdm hS _) (bdm hS _) (bdm hS _) (bdm hS _)) (by omega) rfl rfl (Nat.le_of_ble_eq_true rfl) (fun _ _ => ⟨_, _, rfl, rfl⟩) rfl ?_
  intro r2 T2 hq2 hz2
  obtain ⟨rfl, rfl, hB2⟩ := hq2
  show RS _ _ _ _ _ [.inl _, .inl _] _
  have p := p_copy hS h hB1 hB2
  refine r_icmp_eqv (pc' := 1191) rfl rfl p.1 ?_
  exact K _ hB2 p.2.1 (hz2.trans hz1)
theorem lw_drop {d : Nat} {Q : rQ} {S : rS} {i : Int} (hd : 10 ≤ d) (hS : Bd S) (h : IV S S) (hi : 0 ≤ i ∧ i + 6 ≤ S (-2) (-1)) (K : ∀ S', Bd S' → IV S' S' → S' (-2) = S (-2) → RS d 0 Q 1191 (LL i) [] S') : RS d 0 Q 1102 (LL i) [] S := by
  refine r_aload (pc' := 1103) rfl rfl rfl ?_
  refine r_aload (pc' := 1104) rfl rfl rfl ?_
  refine r_iload (pc' := 1105) rfl rfl rfl ?_
  refine r_const (pc' := 1106) rfl rfl ?_
  refine r_iadd (pc' := 1107) rfl rfl ?_
  refine r_salv (pc' := 1108) (v := S (-2) (i + 1)) rfl rfl (by omega) rfl ?_
  refine q_call (pc' := 1111) rfl rfl rfl (c_X10_drop hS (bdm hS _)) (by omega) rfl rfl (Nat.le_of_ble_eq_true rfl) (fun _ _ => ⟨_, _, rfl, rfl⟩) rfl ?_
  intro r1 T1 hq1 hz1
  obtain ⟨rfl, rfl, hB1⟩ := hq1
  show RS _ _ _ _ _ [.inl _] _
  refine r_aload (pc' := 1112) rfl rfl rfl ?_
  refine r_aload (pc' := 1113) rfl rfl rfl ?_
  refine r_iload (pc' := 1114) rfl rfl rfl ?_
  refine r_const (pc' := 1115) rfl rfl ?_
  refine r_iadd (pc' := 1116) rfl rfl ?_
  refine r_salv (pc' := 1117) (v := S (-2) (i + 1)) rfl rfl (by rw [hz1]; omega) (congrFun hz1 _) ?_
  refine q_call (pc' := 1120) rfl rfl rfl (c_X11_drop hB1 (bdm hS _)) (by omega) rfl rfl (Nat.le_of_ble_eq_true rfl) (fun _ _ => ⟨_, _, rfl, rfl⟩) rfl ?_
  intro r2 T2 hq2 hz2
  obtain ⟨rfl, rfl, hB2⟩ := hq2
  show RS _ _ _ _ _ [.inl _, .inl _] _
  have p := p_drop hS h hB1 hB2
  refine r_icmp_eqv (pc' := 1191) rfl rfl p.1 ?_
  exact K _ hB2 p.2.1 (hz2.trans hz1)
theorem lw_list {d : Nat} {Q : rQ} {S : rS} {i : Int} (hd : 10 ≤ d) (hS : Bd S) (h : IV S S) (hi : 0 ≤ i ∧ i + 6 ≤ S (-2) (-1)) (K : ∀ S', Bd S' → IV S' S' → S' (-2) = S (-2) → RS d 0 Q 1191 (LL i) [] S') : RS d 0 Q 1125 (LL i) [] S := by
  refine r_aload (pc' := 1126) rfl rfl rfl ?_
  refine r_aload (pc' := 1127) rfl rfl rfl ?_
  refine r_iload (pc' := 1128) rfl rfl rfl ?_
  refine r_const (pc' := 1129) rfl rfl ?_
  refine r_iadd (pc' := 1130) rfl rfl ?_
  refine r_salv (pc' := 1131) (v := S (-2) (i + 1)) rfl rfl (by omega) rfl ?_
  refine r_aload (pc' := 1132) rfl rfl rfl ?_
  refine r_iload (pc' := 1133) rfl rfl rfl ?_
  refine r_const (pc' := 1134) rfl rfl ?_
  refine r_iadd (pc' := 1135) rfl rfl ?_
  refine r_salv (pc' := 1136) (v := S (-2) (i + 2)) rfl rfl (by omega) rfl ?_
  refine r_aload (pc' := 1137) rfl rfl rfl ?_
  refine r_iload (pc' := 1138) rfl rfl rfl ?_
  refine r_const (pc' := 1139) rfl rfl ?_
  refine r_iadd (pc' := 1140) rfl rfl ?_
  refine r_salv (pc' := 1141) (v := S (-2) (i + 3)) rfl rfl (by omega) rfl ?_
  refine q_call (pc' := 1144) rfl rfl rfl (c_X10_list hS (bdm hS _) (bdm hS _) (bdm hS _)) (by omega) rfl rfl (Nat.le_of_ble_eq_true rfl) (fun _ _ => ⟨_, _, rfl, rfl⟩) rfl ?_
  intro r1 T1 hq1 hz1
  obtain ⟨hB1, v1, rfl⟩ := g_list hS (s := S (-2) (i + 1)) (l := S (-2) (i + 2)) (i := S (-2) (i + 3)) hq1
  show RS _ _ _ _ _ [.inl v1] _
  refine r_aload (pc' := 1145) rfl rfl rfl ?_
  refine r_aload (pc' := 1146) rfl rfl rfl ?_
  refine r_iload (pc' := 1147) rfl rfl rfl ?_
  refine r_const (pc' := 1148) rfl rfl ?_
  refine r_iadd (pc' := 1149) rfl rfl ?_
  refine r_salv (pc' := 1150) (v := S (-2) (i + 1)) rfl rfl (by rw [hz1]; omega) (congrFun hz1 _) ?_
  refine r_aload (pc' := 1151) rfl rfl rfl ?_
  refine r_iload (pc' := 1152) rfl rfl rfl ?_
  refine r_const (pc' := 1153) rfl rfl ?_
  refine r_iadd (pc' := 1154) rfl rfl ?_
  refine r_salv (pc' := 1155) (v := S (-2) (i + 2)) rfl rfl (by rw [hz1]; omega) (congrFun hz1 _) ?_
  refine r_aload (pc' := 1156) rfl rfl rfl ?_
  refine r_iload (pc' := 1157) rfl rfl rfl ?_
  refine r_const (pc' := 1158) rfl rfl ?_
  refine r_iadd (pc' := 1159) rfl rfl ?_
  refine r_salv (pc' := 1160) (v := S (-2) (i + 3)) rfl rfl (by rw [hz1]; omega) (congrFun hz1 _) ?_
  refine q_call (pc' := 1163) rfl rfl rfl (c_X11_list hB1 (bdm hS _) (bdm hS _) (bdm hS _)) (by omega) rfl rfl (Nat.le_of_ble_eq_true rfl) (fun _ _ => ⟨_, _, rfl, rfl⟩) rfl ?_
  intro r2 T2 hq2 hz2
  obtain ⟨rfl, hB2, hL⟩ := p_list hS h hB1 (s := S (-2) (i + 1)) (l := S (-2) (i + 2)) (i := S (-2) (i + 3)) hq1 hq2
  show RS _ _ _ _ _ [.inl v1, .inl v1] _
  refine r_icmp_eqv (pc' := 1191) rfl rfl rfl ?_
  exact K _ hB2 hL.1 (hz2.trans hz1)
theorem lw_count {d : Nat} {Q : rQ} {S : rS} {i : Int} (hd : 10 ≤ d) (hS : Bd S) (h : IV S S) (hi : 0 ≤ i ∧ i + 6 ≤ S (-2) (-1)) (K : ∀ S', Bd S' → IV S' S' → S' (-2) = S (-2) → RS d 0 Q 1191 (LL i) [] S') : RS d 0 Q 1168 (LL i) [] S := by
  refine r_aload (pc' := 1169) rfl rfl rfl ?_
  refine r_aload (pc' := 1170) rfl rfl rfl ?_
  refine r_iload (pc' := 1171) rfl rfl rfl ?_
  refine r_const (pc' := 1172) rfl rfl ?_
  refine r_iadd (pc' := 1173) rfl rfl ?_
  refine r_salv (pc' := 1174) (v := S (-2) (i + 1)) rfl rfl (by omega) rfl ?_
  refine q_callE (pc' := 1177) (st' := [.inl _]) rfl rfl rfl (c_X10_count hS (bdm hS _)) (by omega) rfl rfl (Nat.le_of_ble_eq_true rfl) (fun _ _ => ⟨_, _, rfl, rfl⟩) rfl rfl ?_
  refine r_aload (pc' := 1178) rfl rfl rfl ?_
  refine r_aload (pc' := 1179) rfl rfl rfl ?_
  refine r_iload (pc' := 1180) rfl rfl rfl ?_
  refine r_const (pc' := 1181) rfl rfl ?_
  refine r_iadd (pc' := 1182) rfl rfl ?_
  refine r_salv (pc' := 1183) (v := S (-2) (i + 1)) rfl rfl (by omega) rfl ?_
  refine q_callE (pc' := 1186) (st' := [.inl _, .inl _]) rfl rfl rfl (c_X11_count hS (bdm hS _)) (by omega) rfl rfl (Nat.le_of_ble_eq_true rfl) (fun _ _ => ⟨_, _, rfl, rfl⟩) rfl rfl ?_
  refine r_icmp_eqv (pc' := 1191) rfl rfl (e_count hS hS h) ?_
  exact K S hS h rfl
theorem law_loop {d : Nat} {Q : rQ} {n : Int} (hd : 10 ≤ d) (hn : 0 ≤ n ∧ n < 2147483648) (hQ : ∀ S, Q (some (.inl 1)) S) : ∀ a : Int × rS, ((0 ≤ a.1 ∧ a.1 ≤ n) ∧ (Bd a.2 ∧ IV a.2 a.2) ∧ a.2 (-2) (-1) = n) → RS d 0 Q 18 (LL a.1) [] a.2 := by
  refine r_while (α := Int × rS) (fun a => LL a.1) (fun a => a.2) (fun a => (0 ≤ a.1 ∧ a.1 ≤ n) ∧ (Bd a.2 ∧ IV a.2 a.2) ∧ a.2 (-2) (-1) = n) (fun a => (n - a.1).toNat) ?_
  rintro ⟨i, S⟩ ⟨hi, ⟨hS, h⟩, hl⟩ ih
  have hi : 0 ≤ i ∧ i ≤ n := hi
  have hS : Bd S := hS
  have h : IV S S := h
  have hl : S (-2) (-1) = n := hl
  show RS d 0 Q 18 (LL i) [] S
  refine r_iload (pc' := 19) rfl rfl rfl ?_
  refine r_aload (pc' := 20) rfl rfl rfl ?_
  refine r_alen (pc' := 21) (v := n) rfl rfl hl ?_
  refine r_const (pc' := 23) rfl rfl ?_
  refine r_isub (pc' := 24) rfl rfl ?_
  by_cases c : n - 6 < i
  · refine r_icmp_gt1 (pc' := 1197) rfl rfl (by omega) c ?_
    refine r_const (pc' := 1198) rfl rfl ?_
    exact q_zret rfl rfl rfl (Or.inr rfl) (hQ S)
  · refine r_icmp_gt0 (pc' := 27) rfl rfl (by omega) (by omega) ?_
    have K : ∀ S', Bd S' → IV S' S' → S' (-2) = S (-2) → RS d 0 Q 1191 (LL i) [] S' := fun S' hS' h' e => by
      refine r_iinc (pc' := 1194) (ls' := LL (i + 6)) rfl rfl rfl rfl rfl ?_
      refine r_goto (pc' := 18) rfl rfl ?_
      exact ih (i + 6, S') ⟨(show 0 ≤ i + 6 ∧ i + 6 ≤ n by omega), ⟨hS', h'⟩, (congrFun e (-1)).trans hl⟩ (show (n - (i + 6)).toNat < (n - i).toNat by omega)
    refine r_aload (pc' := 28) rfl rfl rfl ?_
    refine r_iload (pc' := 29) rfl rfl rfl ?_
    refine r_salv (pc' := 30) (v := S (-2) i) rfl rfl (by omega) rfl ?_
    refine r_const (pc' := 32) rfl rfl ?_
    refine r_iand (pc' := 33) rfl rfl ?_
    have hr := mx_and_r (S (-2) i) 63
    generalize mx_and (S (-2) i) 63 = x at *
    have hx : 6 + i ≤ S (-2) (-1) := by omega
    have hi' : 0 ≤ i ∧ i + 6 ≤ S (-2) (-1) := by omega
    by_cases c0 : x < 0 ∨ 35 < x
    · exact r_tswd (pc' := 1191) rfl rfl hr c0 (K S hS h rfl)
    have cs : x = 0 ∨ x = 1 ∨ x = 2 ∨ x = 3 ∨ x = 4 ∨ x = 5 ∨ x = 6 ∨ x = 7 ∨ x = 8 ∨ x = 9 ∨ x = 10 ∨ x = 11 ∨ x = 12 ∨ x = 13 ∨ x = 14 ∨ x = 15 ∨ x = 16 ∨ x = 17 ∨ x = 18 ∨ x = 19 ∨ x = 20 ∨ x = 21 ∨ x = 22 ∨ x = 23 ∨ x = 24 ∨ x = 25 ∨ x = 26 ∨ x = 27 ∨ x = 28 ∨ x = 29 ∨ x = 30 ∨ x = 31 ∨ x = 32 ∨ x = 33 ∨ x = 34 ∨ x = 35 := by omega
    rcases cs with h0 | h1 | h2 | h3 | h4 | h5 | h6 | h7 | h8 | h9 | h10 | h11 | h12 | h13 | h14 | h15 | h16 | h17 | h18 | h19 | h20 | h21 | h22 | h23 | h24 | h25 | h26 | h27 | h28 | h29 | h30 | h31 | h32 | h33 | h34 | h35
    · exact r_tsw (pc' := 192) 0 rfl rfl rfl hr h0 (lw_write hd hS h hi' K)
    · exact r_tsw (pc' := 215) 1 rfl rfl rfl hr h1 (lw_erase hd hS h hi' K)
    · exact r_tsw (pc' := 228) 2 rfl rfl rfl hr h2 (lw_fault hd hS h hi' K)
    · exact r_tsw (pc' := 241) 3 rfl rfl rfl hr h3 (lw_parish hd hS h hi' K)
    · exact r_tsw (pc' := 254) 4 rfl rfl rfl hr h4 (lw_field hd hS h hi' K)
    · exact r_tsw (pc' := 287) 5 rfl rfl rfl hr h5 (lw_letter hd hS h hi' K)
    · exact r_tsw (pc' := 320) 6 rfl rfl rfl hr h6 (lw_gate hd hS h hi' K)
    · exact r_tsw (pc' := 353) 7 rfl rfl rfl hr h7 (lw_word hd hS h hi' K)
    · exact r_tsw (pc' := 386) 8 rfl rfl rfl hr h8 (lw_as hd hS h hi' K)
    · exact r_tsw (pc' := 419) 9 rfl rfl rfl hr h9 (lw_through hd hS h hi' K)
    · exact r_tsw (pc' := 442) 10 rfl rfl rfl hr h10 (lw_read hd hS h hi' K)
    · exact r_tsw (pc' := 455) 11 rfl rfl rfl hr h11 (lw_rain hd hS h hi' K)
    · exact r_tsw (pc' := 478) 12 rfl rfl rfl hr h12 (lw_birds hd hS h hi' K)
    · exact r_tsw (pc' := 491) 13 rfl rfl rfl hr h13 (lw_plough hd hS h hi' K)
    · exact r_tsw (pc' := 514) 14 rfl rfl rfl hr h14 (lw_day hd hS h hi' K)
    · exact r_tsw (pc' := 527) 15 rfl rfl rfl hr h15 (lw_undo hd hS h hi' K)
    · exact r_tsw (pc' := 540) 16 rfl rfl rfl hr h16 (lw_keep hd hS h hi' K)
    · exact r_tsw (pc' := 563) 17 rfl rfl rfl hr h17 (lw_back hd hS h hi' K)
    · exact r_tsw (pc' := 586) 18 rfl rfl rfl hr h18 (lw_far hd hS h hi' K)
    · exact r_tsw (pc' := 619) 19 rfl rfl rfl hr h19 (lw_whole hd hS h hi' K)
    · exact r_tsw (pc' := 642) 20 rfl rfl rfl hr h20 (lw_before hd hS h hi' K)
    · exact r_tsw (pc' := 665) 21 rfl rfl rfl hr h21 (lw_feast hd hS h hi' K)
    · exact r_tsw (pc' := 688) 22 rfl rfl rfl hr h22 (lw_least hd hS h hi' K)
    · exact r_tsw (pc' := 711) 23 rfl rfl rfl hr h23 (lw_could hd hS h hi' K)
    · exact r_tsw (pc' := 744) 24 rfl rfl rfl hr h24 (lw_which hd hS h hi' K)
    · exact r_tsw (pc' := 777) 25 rfl rfl rfl hr h25 (lw_seen hd hS h hi' K)
    · exact r_tsw (pc' := 820) 26 rfl rfl rfl hr h26 (lw_forget hd hS h hi' K)
    · exact r_tsw (pc' := 833) 27 rfl rfl rfl hr h27 (lw_kinds hd hS h hi' K)
    · exact r_tsw (pc' := 856) 28 rfl rfl rfl hr h28 (lw_odds hd hS h hi' K)
    · exact r_tsw (pc' := 909) 29 rfl rfl rfl hr h29 (lw_shelf hd hS h hi' K)
    · exact r_tsw (pc' := 952) 30 rfl rfl rfl hr h30 (lw_lay hd hS h hi' K)
    · exact r_tsw (pc' := 1005) 31 rfl rfl rfl hr h31 (lw_look hd hS h hi' K)
    · exact r_tsw (pc' := 1039) 32 rfl rfl rfl hr h32 (lw_copy hd hS h hi' K)
    · exact r_tsw (pc' := 1102) 33 rfl rfl rfl hr h33 (lw_drop hd hS h hi' K)
    · exact r_tsw (pc' := 1125) 34 rfl rfl rfl hr h34 (lw_list hd hS h hi' K)
    · exact r_tsw (pc' := 1168) 35 rfl rfl rfl hr h35 (lw_count hd hS h hi' K)
