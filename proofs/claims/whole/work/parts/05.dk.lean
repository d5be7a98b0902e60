/-! THE TABLES AGAINST THE BYTES: what stands in a row of the machine is what the bytes say -/
def mx_D (M pc : Nat) : Option (Instr × Nat) := match decode (mx_row M).2.2.1 pc with
  | .ok q => some q
  | .error _ => none
theorem mx_Dok {M pc : Nat} {q : Instr × Nat} (h : mx_D M pc = some q) : decode (mx_row M).2.2.1 pc = .ok q := by
  unfold mx_D at h
  split at h
  · rename_i q' e; rw [e]; exact congrArg _ (Option.some.inj h)
  · cases h
abbrev mx_ow (M : Nat) : Nat := (mx_row M).2.1
def mx_dk (M pc : Nat) (ai : Instr) (n : Nat) (z : Int) : Bool := match ai with
  | .nop => true
  | .iconst v => decide (n = 1 ∧ mx_D M pc = some (.iconst v, 1)) || (decide (n = 2 ∧ (Int8.ofInt v).toInt32 = Int32.ofInt v ∧ mx_D M pc = some (.bipush v, 2)) || (decide (n = 3 ∧ (Int16.ofInt v).toInt32 = Int32.ofInt v ∧ mx_D M pc = some (.sipush v, 3)) ||
      (mx_cs.any (fun e => decide (e.1 = mx_ow M ∧ e.2.2.1 = v ∧ n = 2 ∧ mx_D M pc = some (.ldc e.2.1, 2))) || mx_cs.any (fun e => decide (e.1 = mx_ow M ∧ e.2.2.1 = v ∧ n = 3 ∧ mx_D M pc = some (.ldc_w e.2.1, 3))))))
  | .sipush v => decide (n = 1 ∧ v = 0 ∧ mx_D M pc = some (.lconst 0, 1)) || (decide (n = 1 ∧ v = 1 ∧ mx_D M pc = some (.lconst 1, 1)) || mx_cl2.any (fun e => decide (e.1 = mx_ow M ∧ e.2.2.1 = v ∧ n = 3 ∧ mx_D M pc = some (.ldc2_w e.2.1, 3))))
  | .ldc j => mx_sr.any (fun e => decide (e.1 = mx_ow M ∧ e.2.2.1 = j ∧ j < 8 ∧ n = 2 ∧ mx_D M pc = some (.ldc e.2.1, 2)))
  | .iload k => decide (n = 2 ∧ mx_D M pc = some (.iload k, 2)) || ([0, 1, 2, 3] : List (Fin 4)).any (fun f => decide ((f : Nat) = k ∧ n = 1 ∧ mx_D M pc = some (.iload_n f, 1)))
  | .lload k => decide (n = 2 ∧ mx_D M pc = some (.lload k, 2)) || ([0, 1, 2, 3] : List (Fin 4)).any (fun f => decide ((f : Nat) = k ∧ n = 1 ∧ mx_D M pc = some (.lload_n f, 1)))
  | .aload k => decide (n = 2 ∧ mx_D M pc = some (.aload k, 2)) || ([0, 1, 2, 3] : List (Fin 4)).any (fun f => decide ((f : Nat) = k ∧ n = 1 ∧ mx_D M pc = some (.aload_n f, 1)))
  | .istore k => decide (n = 2 ∧ mx_D M pc = some (.istore k, 2)) || ([0, 1, 2, 3] : List (Fin 4)).any (fun f => decide ((f : Nat) = k ∧ n = 1 ∧ mx_D M pc = some (.istore_n f, 1)))
  | .lstore k => decide (n = 2 ∧ mx_D M pc = some (.lstore k, 2)) || ([0, 1, 2, 3] : List (Fin 4)).any (fun f => decide ((f : Nat) = k ∧ n = 1 ∧ mx_D M pc = some (.lstore_n f, 1)))
  | .astore k => decide (n = 2 ∧ mx_D M pc = some (.astore k, 2)) || ([0, 1, 2, 3] : List (Fin 4)).any (fun f => decide ((f : Nat) = k ∧ n = 1 ∧ mx_D M pc = some (.astore_n f, 1)))
  | .iinc k d => decide (n = 3 ∧ mx_D M pc = some (.iinc k d, 3))
  | .if_icmp k t => decide (n = 3 ∧ 0 ≤ t ∧ mx_D M pc = some (.if_icmp k (t - (pc : Int)), 3))
  | .ifCond k t => decide (n = 3 ∧ 0 ≤ t ∧ mx_D M pc = some (.ifCond k (t - (pc : Int)), 3))
  | .goto t => decide (n = 3 ∧ 0 ≤ t ∧ mx_D M pc = some (.goto (t - (pc : Int)), 3))
  | .tableswitch d lo hi offs => (match mx_D M pc with
    | some (.tableswitch d' lo' hi' offs', n') => decide (0 ≤ d ∧ (offs.toList.all fun q => decide (0 ≤ q)) = true ∧ hi = lo + (offs.size : Int) - 1 ∧ (-2147483648 ≤ lo ∧ hi < 2147483648) ∧ d' = d - (pc : Int) ∧ lo' = lo ∧ hi' = hi ∧ offs'.toList = offs.toList.map (fun q => q - (pc : Int)) ∧ n' = n)
    | _ => false)
  | .lookupswitch d ps => (match mx_D M pc with
    | some (.lookupswitch d' ps', n') => decide (0 ≤ d ∧ (ps.toList.all fun q => decide (0 ≤ q.2 ∧ -2147483648 ≤ q.1 ∧ q.1 < 2147483648)) = true ∧ ((ps'.toList.zip (ps'.toList.drop 1)).all (fun (a, next) => a.1 < next.1)) = true ∧ d' = d - (pc : Int) ∧ ps'.toList = ps.toList.map (fun q => (q.1, q.2 - (pc : Int))) ∧ n' = n)
    | _ => false)
  | .getfield q => mx_fl.any (fun e => decide (e.1 = mx_ow M ∧ e.2.2.1 = q ∧ n = 3 ∧ z = ((q % 256 / 4 : Nat) : Int) ∧ mx_D M pc = some (.getfield e.2.1, 3)))
  | .putfield q => mx_fl.any (fun e => decide (e.1 = mx_ow M ∧ e.2.2.1 = q ∧ n = 3 ∧ z = ((q % 256 / 4 : Nat) : Int) ∧ (mx_fld (q / 256) (q % 256 / 4)).2.2.2 = false ∧ mx_D M pc = some (.putfield e.2.1, 3)))
  | .putstatic q => mx_fl.any (fun e => decide (e.1 = mx_ow M ∧ e.2.2.1 = q ∧ n = 3 ∧ z = ((q % 256 / 4 : Nat) : Int) ∧ (mx_fld (q / 256) (q % 256 / 4)).2.2.2 = true ∧ (mx_row M).1.name = "<init>" ∧ (mx_fld (q / 256) (q % 256 / 4)).1 = mx_on.getD (mx_ow M) "" ∧ mx_D M pc = some (.putfield e.2.1, 3)))
  | .invokevirtual y => mx_ml.any (fun e => decide (e.1 = mx_ow M ∧ e.2.2.1 = y ∧ n = 3 ∧ (mx_row y).2.2.2.2.2.2.2 = false ∧ (mx_row y).2.2.2.2.2.2.1 < 10 ∧ (mx_row y).1.name ≠ "<init>" ∧ mx_D M pc = some (.invokevirtual e.2.1, 3)))
  | .invokestatic y => mx_ml.any (fun e => decide (e.1 = mx_ow M ∧ e.2.2.1 = y ∧ n = 3 ∧ (mx_row y).2.2.2.2.2.2.2 = true ∧ mx_D M pc = some (.invokestatic e.2.1, 3)))
  | .invokespecial y => mx_ml.any (fun e => decide (e.1 = mx_ow M ∧ e.2.2.1 = y ∧ n = 3 ∧ (mx_row y).2.2.2.2.2.2.2 = false ∧ (mx_row y).2.2.2.2.2.2.1 < 10 ∧ (mx_row y).1.name = "<init>" ∧ (mx_row y).2.2.2.2.1 = none ∧ mx_D M pc = some (.invokespecial e.2.1, 3)))
  | .jsr t => mx_nl.any (fun e => decide (e.1 = mx_ow M ∧ (e.2.2.1 : Int) = t ∧ n = 3 ∧ (mx_row t.toNat).2.2.2.2.2.2.2 = false ∧ (mx_row t.toNat).2.2.2.2.2.2.1 < 10 ∧ (mx_row t.toNat).1.name = "<init>" ∧ (mx_row t.toNat).2.2.2.2.1 = none ∧ mx_D M pc = some (.invokespecial e.2.1, 3)))
  | .invokedynamic j => mx_sl.any (fun e => decide (e.1 = mx_ow M ∧ e.2.2.1 = j ∧ n = 3 ∧ mx_D M pc = some (if j = 9 then .invokespecial e.2.1 else if j = 0 ∨ j = 1 then .invokevirtual e.2.1 else .invokestatic e.2.1, 3)))
  | .new q => mx_kl.any (fun e => decide (e.1 = mx_ow M ∧ e.2.2.1 = q ∧ n = 3 ∧ mx_D M pc = some (.new e.2.1, 3)))
  | .anewarray q => mx_kl.any (fun e => decide (e.1 = mx_ow M ∧ e.2.2.1 = q ∧ n = 3 ∧ mx_D M pc = some (.anewarray e.2.1, 3)))
  | .multianewarray _ _ => mx_kl.any (fun e => decide (e.1 = mx_ow M ∧ e.2.2.1 = 102 ∧ n = 4 ∧ mx_D M pc = some (.multianewarray e.2.1 2, 4)))
  | .newarray t => decide (n = 2 ∧ mx_D M pc = some (.newarray t, 2))
  | .saload => decide (M = 0 ∧ n = 1 ∧ mx_D M pc = some (.iaload, 1))
  | .arraylength => decide (M = 0 ∧ n = 1 ∧ mx_D M pc = some (.arraylength, 1))
  | ai => decide (n = 1 ∧ mx_D M pc = some (ai, 1))
def mx_ckM (M : Nat) : Bool := (List.range (mx_len M)).all (fun pc => mx_dk M pc (mx_kd M pc).1 (mx_kd M pc).2.1 (mx_kd M pc).2.2)
def mx_ckR (M b n : Nat) : Bool := (List.range n).all fun i => mx_dk M (b + i) (mx_kd M (b + i)).1 (mx_kd M (b + i)).2.1 (mx_kd M (b + i)).2.2
theorem mx_ckj {M : Nat} (h : ∀ pc, pc < mx_len M → mx_dk M pc (mx_kd M pc).1 (mx_kd M pc).2.1 (mx_kd M pc).2.2 = true) : mx_ckM M = true := List.all_eq_true.mpr fun pc hp => h pc (List.mem_range.mp hp)
theorem mx_cku {M b n pc : Nat} (h : mx_ckR M b n = true) (h1 : b ≤ pc) (h2 : pc < b + n) : mx_dk M pc (mx_kd M pc).1 (mx_kd M pc).2.1 (mx_kd M pc).2.2 = true := by
  have h3 := List.all_eq_true.mp h (pc - b) (List.mem_range.mpr (by omega))
  rw [show b + (pc - b) = pc by omega] at h3
  exact h3
