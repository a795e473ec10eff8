/-! what an instruction's links must be: a check by the kernel (zi_ck), and what holds in every method (zi_S) -/
def zi_gw : List Cond := lw_tbl.filter goodWord
def zi_isN (w : Cond) : Bool := match w with
  | .fieldLinkNest _ _ _ _ _ _ => true
  | .methodLinkNest _ _ _ _ => true
  | .arrayOver (.object _) => true
  | .arrayOver (.array _) => true
  | _ => false
def zi_nw : List Cond := lw_tbl.filter zi_isN
def zi_w (pos : Nat) (w : Cond) : Bool := decide ((zi_pw (pos / 16))[pos % 16]? = some w) && goodWord w
def zi_wn (pos : Nat) (w : Cond) : Bool := decide ((zi_pw (pos / 16))[pos % 16]? = some w) && zi_isN w
theorem zi_w_in {pos : Nat} {w : Cond} (h : zi_w pos w = true) : w ∈ zi_gw := by
  simp only [zi_w, Bool.and_eq_true, decide_eq_true_eq] at h
  exact List.mem_filter.mpr ⟨zi_pw_in _ w (List.mem_of_getElem? h.1), h.2⟩
theorem zi_wn_in {pos : Nat} {w : Cond} (h : zi_wn pos w = true) : w ∈ zi_nw := by
  simp only [zi_wn, Bool.and_eq_true, decide_eq_true_eq] at h
  exact List.mem_filter.mpr ⟨zi_pw_in _ w (List.mem_of_getElem? h.1), h.2⟩
theorem zi_gw_good {w : Cond} (h : w ∈ zi_gw) : (w.onTables && w.keeps) = true ∨ ∃ ty, w = .arrayClass ty := good_of_word (List.mem_filter.mp h).2
/-- a class by its number -/
abbrev zi_q (ci : Nat) : vw_C := vwCl.getD ci (RX8, TX8, 33)
theorem zi_q_at {ci : Nat} (h : ci < 9) : vwCl[ci]? = some ((zi_q ci).1, (zi_q ci).2.1, (zi_q ci).2.2) := by
  match ci, h with
  | 0, _ => rfl
  | 1, _ => rfl
  | 2, _ => rfl
  | 3, _ => rfl
  | 4, _ => rfl
  | 5, _ => rfl
  | 6, _ => rfl
  | 7, _ => rfl
  | 8, _ => rfl
theorem zi_sub_of {ws : List Cond} (h : ws.all (fun w => decide (w ∈ lw_tbl) && goodWord w) = true) : ∀ w ∈ ws, w ∈ zi_gw := by
  intro w hw
  have h1 := List.all_eq_true.mp h w hw
  simp only [Bool.and_eq_true, decide_eq_true_eq] at h1
  exact List.mem_filter.mpr h1
set_option maxRecDepth 100000 in
theorem zi_q_in {ci : Nat} (h : ci < 9) : ∀ w ∈ u_ws (zi_q ci).1 (zi_q ci).2.1 (zi_q ci).2.2, w ∈ zi_gw := by
  match ci, h with
  | 0, _ => exact zi_sub_of (ws := wsX00) (by decide +kernel)
  | 1, _ => exact zi_sub_of (ws := wsX10) (by decide +kernel)
  | 2, _ => exact zi_sub_of (ws := wsX20) (by decide +kernel)
  | 3, _ => exact zi_sub_of (ws := wsX30) (by decide +kernel)
  | 4, _ => exact zi_sub_of (ws := wsX40) (by decide +kernel)
  | 5, _ => exact zi_sub_of (ws := wsX50) (by decide +kernel)
  | 6, _ => exact zi_sub_of (ws := wsX60) (by decide +kernel)
  | 7, _ => exact zi_sub_of (ws := wsX70) (by decide +kernel)
  | 8, _ => exact zi_sub_of (ws := wsX80) (by decide +kernel)
theorem zi_q_ty {ci : Nat} (h : ci < 9) : ∀ k, k < (zi_q ci).2.2 → parseFieldDescriptor ((zi_q ci).2.1 k).2.2.1 = some (zi_ty ci k) := by
  match ci, h with
  | 0, _ => exact tyX0_ok
  | 1, _ => exact tyX1_ok
  | 2, _ => exact tyX2_ok
  | 3, _ => exact tyX3_ok
  | 4, _ => exact tyX4_ok
  | 5, _ => exact tyX5_ok
  | 6, _ => exact tyX6_ok
  | 7, _ => exact tyX7_ok
  | 8, _ => exact tyX8_ok
theorem zi_q_nm {ci : Nat} (h : ci < 9) : ∀ a, a < (zi_q ci).2.2 → ∀ b, b < (zi_q ci).2.2 → a ≠ b → ((zi_q ci).2.1 a).2.1 ≠ ((zi_q ci).2.1 b).2.1 := by
  match ci, h with
  | 0, _ => exact nmX0
  | 1, _ => exact nmX1
  | 2, _ => exact nmX2
  | 3, _ => exact nmX3
  | 4, _ => exact nmX4
  | 5, _ => exact nmX5
  | 6, _ => exact nmX6
  | 7, _ => exact nmX7
  | 8, _ => exact nmX8
abbrev zi_yy (T : Nat → zi_D) (k : Nat) : MethodName := (T k).1.1
abbrev zi_cd (T : Nat → zi_D) (k : Nat) : ByteArray := (T k).1.2.1
abbrev zi_mx (T : Nat → zi_D) (k : Nat) : Nat := (T k).1.2.2.1
abbrev zi_rt (T : Nat → zi_D) (k : Nat) : Option FieldType := (T k).1.2.2.2
abbrev zi_fr (T : Nat → zi_D) (k : Nat) : Nat := (T k).2.1.1
abbrev zi_lc' (T : Nat → zi_D) (k : Nat) : Nat := (T k).2.1.2.1
abbrev zi_sp (T : Nat → zi_D) (k b : Nat) : Nat := (T k).2.2.2.getD b 0
def zi_rm (T : Nat → zi_D) (k : Nat) : Room := { frames := zi_fr T k, cells := zi_mc T k, slots := zi_ms T k, locals := zi_lc' T k }
/-- a field: own class, pool number, slot, [class, fields, place of the word] -/
def zi_fk (own : String) (idx slot : Nat) (l : List Nat) : Bool :=
  decide (l.getD 0 0 < 9) && (decide (l.getD 1 0 = (zi_q (l.getD 0 0)).2.2) && (decide (slot < (zi_q (l.getD 0 0)).2.2) && (decide (((zi_q (l.getD 0 0)).2.1 slot).1 = (zi_q (l.getD 0 0)).1) && zi_w (l.getD 2 0) (.fieldLink own idx (zi_q (l.getD 0 0)).1 ((zi_q (l.getD 0 0)).2.1 slot).2.1 ((zi_q (l.getD 0 0)).2.1 slot).2.2.1))))
/-- a callee: its words by their places ps; room -/
def zi_kc (T : Nat → zi_D) (k j np : Nat) (p1 p2 : Nat) : Bool :=
  zi_w p1 (.code (zi_yy T j) (zi_cd T j) (zi_mx T j) (zi_rt T j)) && (zi_w p2 (.initialized (zi_yy T j).cls) && (decide ((zi_yy T j).cls ≠ "java/lang/invoke/MethodHandle" ∧ (zi_yy T j).cls ≠ "java/lang/invoke/VarHandle") && (decide ((parseMethodDescriptor (zi_yy T j).desc).map (fun d => d.parameters.length) = some np) && decide (zi_fr T j + 1 ≤ zi_fr T k ∧ 8 + (zi_mx T j + 11) + zi_lc' T j ≤ zi_lc' T k))))
def zi_ck (T : Nat → zi_D) (k pc : Nat) (i : zi_I) (len : Nat) : Bool := match i.1 with
  | .iconst n => decide (len = 1) && decide (Int32.ofInt n = i.2.2.2.1)
  | .bipush n => decide (len = 2) && decide ((Int8.ofInt n).toInt32 = i.2.2.2.1)
  | .sipush n => decide (len = 3) && decide ((Int16.ofInt n).toInt32 = i.2.2.2.1)
  | .lconst _ => decide (len = 1)
  | .ldc2_w idx => decide (len = 3) && zi_w (i.2.2.2.2.getD 0 0) (.constantLong (zi_yy T k).cls idx (-9223372036854775808))
  | .aconst_null => decide (len = 1)
  | .iload _ => decide (len = 2)
  | .lload _ => decide (len = 2)
  | .aload _ => decide (len = 2)
  | .iload_n _ => decide (len = 1)
  | .lload_n _ => decide (len = 1)
  | .aload_n _ => decide (len = 1)
  | .istore n => decide (len = 2) && decide (n < zi_mx T k)
  | .lstore n => decide (len = 2) && decide (n + 1 < zi_mx T k)
  | .astore n => decide (len = 2) && decide (n < zi_mx T k)
  | .istore_n n => decide (len = 1) && decide (n.val < zi_mx T k)
  | .lstore_n n => decide (len = 1) && decide (n.val + 1 < zi_mx T k)
  | .astore_n n => decide (len = 1) && decide (n.val < zi_mx T k)
  | .iinc n d => decide (len = 3) && (decide (n < zi_mx T k) && decide (Int32.ofInt d = i.2.2.2.1))
  | .iadd => decide (len = 1)
  | .isub => decide (len = 1)
  | .imul => decide (len = 1)
  | .iand => decide (len = 1)
  | .ior => decide (len = 1)
  | .ishl => decide (len = 1)
  | .ishr => decide (len = 1)
  | .idiv => decide (len = 1)
  | .irem => decide (len = 1)
  | .ladd => decide (len = 1)
  | .ldiv => decide (len = 1)
  | .lrem => decide (len = 1)
  | .lcmp => decide (len = 1)
  | .i2l => decide (len = 1)
  | .i2b => decide (len = 1)
  | .i2s => decide (len = 1)
  | .pop => decide (len = 1)
  | .dup => decide (len = 1)
  | .dup2 => decide (len = 1)
  | .getfield idx => decide (len = 3) && (zi_fk (zi_yy T k).cls idx i.2.1 i.2.2.2.2 && decide (i.2.2.1 = 2 ↔ zi_tg (i.2.2.2.2.getD 0 0) i.2.1 = 2))
  | .putfield idx => decide (len = 3) && (zi_fk (zi_yy T k).cls idx i.2.1 i.2.2.2.2 && (decide (zi_tgt (zi_ty (i.2.2.2.2.getD 0 0) i.2.1) = i.2.2.1 ∧ i.2.2.1 < 3) && (decide (i.2.2.1 = 2 → (zi_ty (i.2.2.2.2.getD 0 0) i.2.1).isReference = true) &&
      decide (((zi_q (i.2.2.2.2.getD 0 0)).2.1 i.2.1).2.2.2 = true → (zi_yy T k).name = "<init>" ∧ ((zi_q (i.2.2.2.2.getD 0 0)).2.1 i.2.1).1 = (zi_yy T k).cls))))
  | .getstatic idx => decide (len = 3) && (decide (i.2.1 < 2) && (zi_w (i.2.2.2.2.getD 0 0) (.fieldLink (zi_yy T k).cls idx "LoopRounds" (if i.2.1 = 0 then "USES" else "MAKES") "[I") || zi_wn (i.2.2.2.2.getD 0 0) (.fieldLinkNest (zi_yy T k).cls idx "LoopRounds" (if i.2.1 = 0 then "USES" else "MAKES") "[I" "LoopRounds")))
  | .iaload => decide (len = 1)
  | .iastore => decide (len = 1)
  | .laload => decide (len = 1)
  | .lastore => decide (len = 1)
  | .aaload => decide (len = 1)
  | .aastore => decide (len = 1)
  | .arraylength => decide (len = 1)
  | .new idx => decide (len = 3) && (decide (i.2.1 < 9 ∧ i.2.2.1 = (zi_q i.2.1).2.2) && (zi_w (i.2.2.2.2.getD 0 0) (.classLink (zi_yy T k).cls idx (zi_q i.2.1).1) && (zi_w (i.2.2.2.2.getD 1 0) (.instantiable (zi_q i.2.1).1 i.2.2.1) && (zi_w (i.2.2.2.2.getD 2 0) (.initialized (zi_q i.2.1).1) && decide ((List.range (zi_q i.2.1).2.2).all (fun j => decide (defaultValue (zi_ty i.2.1 j) = zi_fv (zi_tg i.2.1 j) 0 none)) = true)))))
  | .newarray t => decide (len = 2) && (decide ((t = .int ∧ i.2.1 = 1 ∧ i.2.2.1 = 0) ∨ (t = .long ∧ i.2.1 = 2 ∧ i.2.2.1 = 1)) && zi_w (i.2.2.2.2.getD 0 0) (.arrayClass (newarray.typeOf t)))
  | .anewarray idx => decide (len = 3) && (decide (i.2.1 = 2 ∨ i.2.1 = 3) && (zi_w (i.2.2.2.2.getD 0 0) (.classLink (zi_yy T k).cls idx (if i.2.1 = 2 then "LoopRounds$Sheet" else "LoopRounds$Round")) && zi_wn (i.2.2.2.2.getD 1 0) (.arrayOver (.object (if i.2.1 = 2 then "LoopRounds$Sheet" else "LoopRounds$Round")))))
  | .multianewarray idx d => decide (len = 4 ∧ d = 2) && (decide ((i.2.1 = 4 ∧ i.2.2.1 = 0 ∧ i.2.2.2.2.getD 0 0 = 1) ∨ (i.2.1 = 5 ∧ i.2.2.1 = 1 ∧ i.2.2.2.2.getD 0 0 = 2)) && (zi_w (i.2.2.2.2.getD 1 0) (.classLink (zi_yy T k).cls idx (if i.2.1 = 4 then "[[I" else "[[J")) && (zi_wn (i.2.2.2.2.getD 2 0) (.arrayOver (.array (if i.2.1 = 4 then .int else .long))) && zi_w (i.2.2.2.2.getD 3 0) (.arrayClass (if i.2.1 = 4 then .int else .long)))))
  | .goto off => decide (len = 3) && decide ((pc : Int) + off = (zi_sp T k i.2.1 : Int))
  | .ifCond _ off => decide (len = 3) && decide ((pc : Int) + off = (zi_sp T k i.2.1 : Int))
  | .if_icmp _ off => decide (len = 3) && decide ((pc : Int) + off = (zi_sp T k i.2.1 : Int))
  | .ifnull off => decide (len = 3) && decide ((pc : Int) + off = (zi_sp T k i.2.1 : Int))
  | .ifnonnull off => decide (len = 3) && decide ((pc : Int) + off = (zi_sp T k i.2.1 : Int))
  | .tableswitch d lo hi offs => decide ((pc : Int) + d = (zi_sp T k i.2.1 : Int)) && (decide (lo = i.2.2.2.1.toInt ∧ 0 ≤ lo ∧ hi < 1000 ∧ hi + 1 = lo + i.2.2.2.2.length) && decide (offs.toList.map (fun o => (pc : Int) + o) = i.2.2.2.2.map (fun b => (zi_sp T k b : Int))))
  | .lookupswitch d ps => decide ((pc : Int) + d = (zi_sp T k i.2.1 : Int)) && (decide ((ps.toList.zip (ps.toList.drop 1)).all (fun (a, next) => a.1 < next.1) = true) && (decide (ps.toList.all (fun q => decide ((Int32.ofInt q.1).toInt = q.1)) = true) && decide (ps.toList.map (fun q => (pc : Int) + q.2) = i.2.2.2.2.map (fun b => (zi_sp T k b : Int)))))
  | .ireturn => decide (len = 1) && decide (if i.2.1 = 1 then zi_rt T k = some .boolean else zi_rt T k = some .int)
  | .lreturn => decide (len = 1) && decide (zi_rt T k = some .long)
  | .areturn => decide (len = 1) && decide (zi_rt T k = some (.object "LoopRounds$Round"))
  | .return_ => decide (len = 1) && decide (zi_rt T k = none)
  | .invokestatic idx => decide (len = 3) && (if i.2.1 = 9998 then
        zi_w (i.2.2.2.2.getD 0 0) (.methodLink (zi_yy T k).cls idx arraycopyName) && (zi_w (i.2.2.2.2.getD 1 0) (.native arraycopyName) && (zi_w (i.2.2.2.2.getD 2 0) (.static arraycopyName) && (zi_w (i.2.2.2.2.getD 3 0) (.initialized "java/lang/System") && decide (1 ≤ zi_fr T k ∧ 8 + (nativeFrameWords "java/lang/System" "arraycopy" 5 + 11) ≤ zi_lc' T k))))
      else zi_kc T k i.2.1 i.2.2.1 (i.2.2.2.2.getD 2 0) (i.2.2.2.2.getD 3 0) && (decide (i.2.2.2.2.getD 0 0 = zi_mx T i.2.1) && (zi_w (i.2.2.2.2.getD 4 0) (.static (zi_yy T i.2.1)) && (zi_w (i.2.2.2.2.getD 1 0) (.methodLink (zi_yy T k).cls idx (zi_yy T i.2.1)) || zi_wn (i.2.2.2.2.getD 1 0) (.methodLinkNest (zi_yy T k).cls idx (zi_yy T i.2.1) "LoopRounds")))))
  | .invokevirtual idx => decide (len = 3) && (zi_kc T k i.2.1 (i.2.2.1 - 1) (i.2.2.2.2.getD 4 0) (i.2.2.2.2.getD 5 0) && (decide (i.2.2.2.2.getD 2 0 = zi_mx T i.2.1 ∧ i.2.2.2.2.getD 0 0 < 9 ∧ (zi_q (i.2.2.2.2.getD 0 0)).1 = (zi_yy T i.2.1).cls ∧ i.2.2.1 ≠ 0) && (zi_w (i.2.2.2.2.getD 6 0) (.instanceMethod (zi_yy T i.2.1)) && (zi_w (i.2.2.2.2.getD 7 0) (.selects (zi_yy T i.2.1).cls (zi_yy T i.2.1) (zi_yy T i.2.1)) && zi_w (i.2.2.2.2.getD 3 0) (.methodLink (zi_yy T k).cls idx (zi_yy T i.2.1))))))
  | .invokespecial idx => decide (len = 3) && (if i.2.1 = 9999 then
        zi_w (i.2.2.2.2.getD 0 0) (.methodLink (zi_yy T k).cls idx objectInit) && (zi_w (i.2.2.2.2.getD 1 0) (.instanceMethod objectInit) && (zi_w (i.2.2.2.2.getD 2 0) (.code objectInit ⟨#[0xb1]⟩ 1 none) && decide (1 ≤ zi_fr T k ∧ 20 ≤ zi_lc' T k)))
      else zi_kc T k i.2.1 (i.2.2.1 - 1) (i.2.2.2.2.getD 4 0) (i.2.2.2.2.getD 5 0) && (decide (i.2.2.2.2.getD 2 0 = zi_mx T i.2.1 ∧ (zi_yy T i.2.1).name = "<init>" ∧ zi_rt T i.2.1 = none ∧ i.2.2.1 ≠ 0) && (zi_w (i.2.2.2.2.getD 6 0) (.instanceMethod (zi_yy T i.2.1)) && (zi_w (i.2.2.2.2.getD 3 0) (.methodLink (zi_yy T k).cls idx (zi_yy T i.2.1)) || zi_wn (i.2.2.2.2.getD 3 0) (.methodLinkNest (zi_yy T k).cls idx (zi_yy T i.2.1) "LoopRounds")))))
  | _ => false
/-- a stretch of instructions from a place of the code on -/
def zi_chk (T : Nat → zi_D) (k : Nat) : Nat → List zi_I → Bool
  | _, [] => true
  | pc, i :: is => if i.1 = .nop then decide (pc = zi_sp T k i.2.1) && decide (i.2.1 < (T k).2.2.1.length) else match decode (zi_cd T k) pc with
    | .ok (op, len) => decide (op = i.1) && (zi_ck T k pc i len && zi_chk T k (pc + len) is)
    | _ => false
