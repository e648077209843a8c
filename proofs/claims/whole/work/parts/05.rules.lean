section CM
variable {l : Launch} {g : cm_G} {d mc ms : Nat} {y : cm_M} {pc pc' : Nat} {ls st : List Value} {I : cm_I} {L : cm_L} {R : cm_R} {ds : cm_Ds} {Q : cm_Post}
theorem x_iadd {a b : Int32} (hq : cm_N y pc .iadd 1 pc')  (k : cm_Ex l g d mc ms y pc' ls (.int (a + b) :: st) I L R ds Q) : cm_Ex l g d mc ms y pc ls (.int b :: .int a :: st) I L R ds Q := by
  obtain ⟨hdg, rfl⟩ := hq
  exact fun p e Rm s m args below meth c H locs cells slots kc ks als C w hS hl hr => lv_iadd C.1 C.2.1 hdg (k p e Rm s m args below meth c H locs cells slots kc ks als C w hS hl hr)
theorem x_isub {a b : Int32} (hq : cm_N y pc .isub 1 pc')  (k : cm_Ex l g d mc ms y pc' ls (.int (a - b) :: st) I L R ds Q) : cm_Ex l g d mc ms y pc ls (.int b :: .int a :: st) I L R ds Q := by
  obtain ⟨hdg, rfl⟩ := hq
  exact fun p e Rm s m args below meth c H locs cells slots kc ks als C w hS hl hr => lv_isub C.1 C.2.1 hdg (k p e Rm s m args below meth c H locs cells slots kc ks als C w hS hl hr)
theorem x_imul {a b : Int32} (hq : cm_N y pc .imul 1 pc')  (k : cm_Ex l g d mc ms y pc' ls (.int (a * b) :: st) I L R ds Q) : cm_Ex l g d mc ms y pc ls (.int b :: .int a :: st) I L R ds Q := by
  obtain ⟨hdg, rfl⟩ := hq
  exact fun p e Rm s m args below meth c H locs cells slots kc ks als C w hS hl hr => lv_imul C.1 C.2.1 hdg (k p e Rm s m args below meth c H locs cells slots kc ks als C w hS hl hr)
theorem x_iand {a b : Int32} (hq : cm_N y pc .iand 1 pc')  (k : cm_Ex l g d mc ms y pc' ls (.int (a &&& b) :: st) I L R ds Q) : cm_Ex l g d mc ms y pc ls (.int b :: .int a :: st) I L R ds Q := by
  obtain ⟨hdg, rfl⟩ := hq
  exact fun p e Rm s m args below meth c H locs cells slots kc ks als C w hS hl hr => lv_iand C.1 C.2.1 hdg (k p e Rm s m args below meth c H locs cells slots kc ks als C w hS hl hr)
theorem x_ior {a b : Int32} (hq : cm_N y pc .ior 1 pc')  (k : cm_Ex l g d mc ms y pc' ls (.int (a ||| b) :: st) I L R ds Q) : cm_Ex l g d mc ms y pc ls (.int b :: .int a :: st) I L R ds Q := by
  obtain ⟨hdg, rfl⟩ := hq
  exact fun p e Rm s m args below meth c H locs cells slots kc ks als C w hS hl hr => lv_ior C.1 C.2.1 hdg (k p e Rm s m args below meth c H locs cells slots kc ks als C w hS hl hr)
theorem x_ixor {a b : Int32} (hq : cm_N y pc .ixor 1 pc')  (k : cm_Ex l g d mc ms y pc' ls (.int (a ^^^ b) :: st) I L R ds Q) : cm_Ex l g d mc ms y pc ls (.int b :: .int a :: st) I L R ds Q := by
  obtain ⟨hdg, rfl⟩ := hq
  exact fun p e Rm s m args below meth c H locs cells slots kc ks als C w hS hl hr => lv_ixor C.1 C.2.1 hdg (k p e Rm s m args below meth c H locs cells slots kc ks als C w hS hl hr)
theorem x_ishl {a b : Int32} (hq : cm_N y pc .ishl 1 pc')  (k : cm_Ex l g d mc ms y pc' ls (.int (a <<< (b &&& 31)) :: st) I L R ds Q) : cm_Ex l g d mc ms y pc ls (.int b :: .int a :: st) I L R ds Q := by
  obtain ⟨hdg, rfl⟩ := hq
  exact fun p e Rm s m args below meth c H locs cells slots kc ks als C w hS hl hr => lv_ishl C.1 C.2.1 hdg (k p e Rm s m args below meth c H locs cells slots kc ks als C w hS hl hr)
theorem x_ishr {a b : Int32} (hq : cm_N y pc .ishr 1 pc')  (k : cm_Ex l g d mc ms y pc' ls (.int (a >>> (b &&& 31)) :: st) I L R ds Q) : cm_Ex l g d mc ms y pc ls (.int b :: .int a :: st) I L R ds Q := by
  obtain ⟨hdg, rfl⟩ := hq
  exact fun p e Rm s m args below meth c H locs cells slots kc ks als C w hS hl hr => lv_ishr C.1 C.2.1 hdg (k p e Rm s m args below meth c H locs cells slots kc ks als C w hS hl hr)
theorem x_iushr {a b : Int32} (hq : cm_N y pc .iushr 1 pc')  (k : cm_Ex l g d mc ms y pc' ls (.int ((a.toUInt32 >>> (b.toUInt32 &&& Int32.toUInt32 31)).toInt32) :: st) I L R ds Q) : cm_Ex l g d mc ms y pc ls (.int b :: .int a :: st) I L R ds Q := by
  obtain ⟨hdg, rfl⟩ := hq
  exact fun p e Rm s m args below meth c H locs cells slots kc ks als C w hS hl hr => lv_iushr C.1 C.2.1 hdg rfl (k p e Rm s m args below meth c H locs cells slots kc ks als C w hS hl hr)
theorem x_idiv {a b : Int32} (hq : cm_N y pc .idiv 1 pc') (hne : ¬ b = 0) (k : cm_Ex l g d mc ms y pc' ls (.int (a / b) :: st) I L R ds Q) : cm_Ex l g d mc ms y pc ls (.int b :: .int a :: st) I L R ds Q := by
  obtain ⟨hdg, rfl⟩ := hq
  exact fun p e Rm s m args below meth c H locs cells slots kc ks als C w hS hl hr => lv_idiv C.1 C.2.1 hdg hne (k p e Rm s m args below meth c H locs cells slots kc ks als C w hS hl hr)
theorem x_irem {a b : Int32} (hq : cm_N y pc .irem 1 pc') (hne : ¬ b = 0) (k : cm_Ex l g d mc ms y pc' ls (.int (a - a / b * b) :: st) I L R ds Q) : cm_Ex l g d mc ms y pc ls (.int b :: .int a :: st) I L R ds Q := by
  obtain ⟨hdg, rfl⟩ := hq
  exact fun p e Rm s m args below meth c H locs cells slots kc ks als C w hS hl hr => lv_irem C.1 C.2.1 hdg hne (k p e Rm s m args below meth c H locs cells slots kc ks als C w hS hl hr)
theorem x_ineg {a : Int32} (hq : cm_N y pc .ineg 1 pc')  (k : cm_Ex l g d mc ms y pc' ls (.int (-a) :: st) I L R ds Q) : cm_Ex l g d mc ms y pc ls (.int a :: st) I L R ds Q := by
  obtain ⟨hdg, rfl⟩ := hq
  exact fun p e Rm s m args below meth c H locs cells slots kc ks als C w hS hl hr => lv_ineg C.1 C.2.1 hdg (k p e Rm s m args below meth c H locs cells slots kc ks als C w hS hl hr)
theorem x_ladd {a b : Int64} (hq : cm_N y pc .ladd 1 pc')  (k : cm_Ex l g d mc ms y pc' ls (.long (a + b) :: st) I L R ds Q) : cm_Ex l g d mc ms y pc ls (.long b :: .long a :: st) I L R ds Q := by
  obtain ⟨hdg, rfl⟩ := hq
  exact fun p e Rm s m args below meth c H locs cells slots kc ks als C w hS hl hr => lv_ladd C.1 C.2.1 hdg (k p e Rm s m args below meth c H locs cells slots kc ks als C w hS hl hr)
theorem x_lsub {a b : Int64} (hq : cm_N y pc .lsub 1 pc')  (k : cm_Ex l g d mc ms y pc' ls (.long (a - b) :: st) I L R ds Q) : cm_Ex l g d mc ms y pc ls (.long b :: .long a :: st) I L R ds Q := by
  obtain ⟨hdg, rfl⟩ := hq
  exact fun p e Rm s m args below meth c H locs cells slots kc ks als C w hS hl hr => lv_lsub C.1 C.2.1 hdg (k p e Rm s m args below meth c H locs cells slots kc ks als C w hS hl hr)
theorem x_land {a b : Int64} (hq : cm_N y pc .land 1 pc')  (k : cm_Ex l g d mc ms y pc' ls (.long (a &&& b) :: st) I L R ds Q) : cm_Ex l g d mc ms y pc ls (.long b :: .long a :: st) I L R ds Q := by
  obtain ⟨hdg, rfl⟩ := hq
  exact fun p e Rm s m args below meth c H locs cells slots kc ks als C w hS hl hr => lv_land C.1 C.2.1 hdg (k p e Rm s m args below meth c H locs cells slots kc ks als C w hS hl hr)
theorem x_lor {a b : Int64} (hq : cm_N y pc .lor 1 pc')  (k : cm_Ex l g d mc ms y pc' ls (.long (a ||| b) :: st) I L R ds Q) : cm_Ex l g d mc ms y pc ls (.long b :: .long a :: st) I L R ds Q := by
  obtain ⟨hdg, rfl⟩ := hq
  exact fun p e Rm s m args below meth c H locs cells slots kc ks als C w hS hl hr => lv_lor C.1 C.2.1 hdg (k p e Rm s m args below meth c H locs cells slots kc ks als C w hS hl hr)
theorem x_lxor {a b : Int64} (hq : cm_N y pc .lxor 1 pc')  (k : cm_Ex l g d mc ms y pc' ls (.long (a ^^^ b) :: st) I L R ds Q) : cm_Ex l g d mc ms y pc ls (.long b :: .long a :: st) I L R ds Q := by
  obtain ⟨hdg, rfl⟩ := hq
  exact fun p e Rm s m args below meth c H locs cells slots kc ks als C w hS hl hr => lv_lxor C.1 C.2.1 hdg (k p e Rm s m args below meth c H locs cells slots kc ks als C w hS hl hr)
theorem x_lrem {a b : Int64} (hq : cm_N y pc .lrem 1 pc') (hne : ¬ b = 0) (k : cm_Ex l g d mc ms y pc' ls (.long (a - a / b * b) :: st) I L R ds Q) : cm_Ex l g d mc ms y pc ls (.long b :: .long a :: st) I L R ds Q := by
  obtain ⟨hdg, rfl⟩ := hq
  exact fun p e Rm s m args below meth c H locs cells slots kc ks als C w hS hl hr => lv_lrem C.1 C.2.1 hdg hne (k p e Rm s m args below meth c H locs cells slots kc ks als C w hS hl hr)
theorem x_lshl {a : Int64} {b : Int32} (hq : cm_N y pc .lshl 1 pc')  (k : cm_Ex l g d mc ms y pc' ls (.long (a <<< (b.toInt64 &&& 63)) :: st) I L R ds Q) : cm_Ex l g d mc ms y pc ls (.int b :: .long a :: st) I L R ds Q := by
  obtain ⟨hdg, rfl⟩ := hq
  exact fun p e Rm s m args below meth c H locs cells slots kc ks als C w hS hl hr => lv_lshl C.1 C.2.1 hdg rfl (k p e Rm s m args below meth c H locs cells slots kc ks als C w hS hl hr)
theorem x_lushr {a : Int64} {b : Int32} (hq : cm_N y pc .lushr 1 pc')  (k : cm_Ex l g d mc ms y pc' ls (.long ((a.toUInt64 >>> (b.toInt64.toUInt64 &&& Int64.toUInt64 63)).toInt64) :: st) I L R ds Q) : cm_Ex l g d mc ms y pc ls (.int b :: .long a :: st) I L R ds Q := by
  obtain ⟨hdg, rfl⟩ := hq
  exact fun p e Rm s m args below meth c H locs cells slots kc ks als C w hS hl hr => lv_lushr C.1 C.2.1 hdg rfl (k p e Rm s m args below meth c H locs cells slots kc ks als C w hS hl hr)
theorem x_lcmp {a b : Int64} (hq : cm_N y pc .lcmp 1 pc')  (k : cm_Ex l g d mc ms y pc' ls (.int (lg_cmp a b) :: st) I L R ds Q) : cm_Ex l g d mc ms y pc ls (.long b :: .long a :: st) I L R ds Q := by
  obtain ⟨hdg, rfl⟩ := hq
  exact fun p e Rm s m args below meth c H locs cells slots kc ks als C w hS hl hr => W.lcmp C.1 C.2.1 hdg (k p e Rm s m args below meth c H locs cells slots kc ks als C w hS hl hr)
theorem x_i2l {a : Int32} (hq : cm_N y pc .i2l 1 pc')  (k : cm_Ex l g d mc ms y pc' ls (.long a.toInt64 :: st) I L R ds Q) : cm_Ex l g d mc ms y pc ls (.int a :: st) I L R ds Q := by
  obtain ⟨hdg, rfl⟩ := hq
  exact fun p e Rm s m args below meth c H locs cells slots kc ks als C w hS hl hr => lv_i2l C.1 C.2.1 hdg rfl (k p e Rm s m args below meth c H locs cells slots kc ks als C w hS hl hr)
theorem x_l2i {a : Int64} (hq : cm_N y pc .l2i 1 pc')  (k : cm_Ex l g d mc ms y pc' ls (.int a.toInt32 :: st) I L R ds Q) : cm_Ex l g d mc ms y pc ls (.long a :: st) I L R ds Q := by
  obtain ⟨hdg, rfl⟩ := hq
  exact fun p e Rm s m args below meth c H locs cells slots kc ks als C w hS hl hr => lv_l2i C.1 C.2.1 hdg rfl (k p e Rm s m args below meth c H locs cells slots kc ks als C w hS hl hr)
theorem x_i2b {a : Int32} (hq : cm_N y pc .i2b 1 pc')  (k : cm_Ex l g d mc ms y pc' ls (.int a.toInt8.toInt32 :: st) I L R ds Q) : cm_Ex l g d mc ms y pc ls (.int a :: st) I L R ds Q := by
  obtain ⟨hdg, rfl⟩ := hq
  exact fun p e Rm s m args below meth c H locs cells slots kc ks als C w hS hl hr => lv_i2b C.1 C.2.1 hdg rfl (k p e Rm s m args below meth c H locs cells slots kc ks als C w hS hl hr)
theorem x_i2s {a : Int32} (hq : cm_N y pc .i2s 1 pc')  (k : cm_Ex l g d mc ms y pc' ls (.int a.toInt16.toInt32 :: st) I L R ds Q) : cm_Ex l g d mc ms y pc ls (.int a :: st) I L R ds Q := by
  obtain ⟨hdg, rfl⟩ := hq
  exact fun p e Rm s m args below meth c H locs cells slots kc ks als C w hS hl hr => lv_i2s C.1 C.2.1 hdg rfl (k p e Rm s m args below meth c H locs cells slots kc ks als C w hS hl hr)
theorem x_i2c {a : Int32} (hq : cm_N y pc .i2c 1 pc')  (k : cm_Ex l g d mc ms y pc' ls (.int ((a.toUInt32 % 65536).toInt32) :: st) I L R ds Q) : cm_Ex l g d mc ms y pc ls (.int a :: st) I L R ds Q := by
  obtain ⟨hdg, rfl⟩ := hq
  exact fun p e Rm s m args below meth c H locs cells slots kc ks als C w hS hl hr => lv_i2c C.1 C.2.1 hdg rfl (k p e Rm s m args below meth c H locs cells slots kc ks als C w hS hl hr)
theorem x_iconst {n : Int} {v : Int32} (hq : cm_N y pc (.iconst n) 1 pc') (hv : Int32.ofInt n = v) (k : cm_Ex l g d mc ms y pc' ls (.int v :: st) I L R ds Q) : cm_Ex l g d mc ms y pc ls (st) I L R ds Q := by
  obtain ⟨hdg, rfl⟩ := hq
  exact fun p e Rm s m args below meth c H locs cells slots kc ks als C w hS hl hr => lv_iconst C.1 C.2.1 hdg hv (k p e Rm s m args below meth c H locs cells slots kc ks als C w hS hl hr)
theorem x_bipush {n : Int} {v : Int32} (hq : cm_N y pc (.bipush n) 2 pc') (hv : (Int8.ofInt n).toInt32 = v) (k : cm_Ex l g d mc ms y pc' ls (.int v :: st) I L R ds Q) : cm_Ex l g d mc ms y pc ls (st) I L R ds Q := by
  obtain ⟨hdg, rfl⟩ := hq
  exact fun p e Rm s m args below meth c H locs cells slots kc ks als C w hS hl hr => lv_bipush C.1 C.2.1 hdg hv (k p e Rm s m args below meth c H locs cells slots kc ks als C w hS hl hr)
theorem x_sipush {n : Int} {v : Int32} (hq : cm_N y pc (.sipush n) 3 pc') (hv : (Int16.ofInt n).toInt32 = v) (k : cm_Ex l g d mc ms y pc' ls (.int v :: st) I L R ds Q) : cm_Ex l g d mc ms y pc ls (st) I L R ds Q := by
  obtain ⟨hdg, rfl⟩ := hq
  exact fun p e Rm s m args below meth c H locs cells slots kc ks als C w hS hl hr => lv_sipush C.1 C.2.1 hdg hv (k p e Rm s m args below meth c H locs cells slots kc ks als C w hS hl hr)
theorem x_lconst {n : Fin 2} {v : Int64} (hq : cm_N y pc (.lconst n) 1 pc') (hv : Int64.ofNat (n : Nat) = v) (k : cm_Ex l g d mc ms y pc' ls (.long v :: st) I L R ds Q) : cm_Ex l g d mc ms y pc ls (st) I L R ds Q := by
  obtain ⟨hdg, rfl⟩ := hq
  exact fun p e Rm s m args below meth c H locs cells slots kc ks als C w hS hl hr => lv_lconst C.1 C.2.1 hdg hv (k p e Rm s m args below meth c H locs cells slots kc ks als C w hS hl hr)
theorem x_ldc {idx : Nat} {v : Int32} (hq : cm_N y pc (.ldc idx) 2 pc') (hw : Cond.constant y.1.cls idx v ∈ cm_W0) (k : cm_Ex l g d mc ms y pc' ls (.int v :: st) I L R ds Q) : cm_Ex l g d mc ms y pc ls (st) I L R ds Q := by
  obtain ⟨hdg, rfl⟩ := hq
  exact fun p e Rm s m args below meth c H locs cells slots kc ks als C w hS hl hr => lv_ldc C.1 C.2.1 C.2.2.2.2.1 (C.2.2.2.2.2.1 _ (List.mem_cons_of_mem _ hw)) hdg (k p e Rm s m args below meth c H locs cells slots kc ks als C w hS hl hr)
theorem x_ldcw {idx : Nat} {v : Int32} (hq : cm_N y pc (.ldc_w idx) 3 pc') (hw : Cond.constant y.1.cls idx v ∈ cm_W0) (k : cm_Ex l g d mc ms y pc' ls (.int v :: st) I L R ds Q) : cm_Ex l g d mc ms y pc ls (st) I L R ds Q := by
  obtain ⟨hdg, rfl⟩ := hq
  exact fun p e Rm s m args below meth c H locs cells slots kc ks als C w hS hl hr => lv_ldcw C.1 C.2.1 C.2.2.2.2.1 (C.2.2.2.2.2.1 _ (List.mem_cons_of_mem _ hw)) hdg (k p e Rm s m args below meth c H locs cells slots kc ks als C w hS hl hr)
theorem x_ldc2 {idx : Nat} {v : Int64} (hq : cm_N y pc (.ldc2_w idx) 3 pc') (hw : Cond.constantLong y.1.cls idx v ∈ cm_W0) (k : cm_Ex l g d mc ms y pc' ls (.long v :: st) I L R ds Q) : cm_Ex l g d mc ms y pc ls (st) I L R ds Q := by
  obtain ⟨hdg, rfl⟩ := hq
  exact fun p e Rm s m args below meth c H locs cells slots kc ks als C w hS hl hr => lv_ldc2 C.1 C.2.1 C.2.2.2.2.1 (C.2.2.2.2.2.1 _ (List.mem_cons_of_mem _ hw)) hdg (k p e Rm s m args below meth c H locs cells slots kc ks als C w hS hl hr)
theorem x_null (hq : cm_N y pc .aconst_null 1 pc')  (k : cm_Ex l g d mc ms y pc' ls (.null :: st) I L R ds Q) : cm_Ex l g d mc ms y pc ls (st) I L R ds Q := by
  obtain ⟨hdg, rfl⟩ := hq
  exact fun p e Rm s m args below meth c H locs cells slots kc ks als C w hS hl hr => lv_null C.1 C.2.1 hdg (k p e Rm s m args below meth c H locs cells slots kc ks als C w hS hl hr)
theorem x_dup {v : Value} (hq : cm_N y pc .dup 1 pc') (hc : v.category = 1) (k : cm_Ex l g d mc ms y pc' ls (v :: v :: st) I L R ds Q) : cm_Ex l g d mc ms y pc ls (v :: st) I L R ds Q := by
  obtain ⟨hdg, rfl⟩ := hq
  exact fun p e Rm s m args below meth c H locs cells slots kc ks als C w hS hl hr => lv_dup C.1 C.2.1 hdg ((cm_cat C.2.2.2.2.2.2.2.2.1.2.1 v).trans hc) (k p e Rm s m args below meth c H locs cells slots kc ks als C w hS hl hr)
theorem x_pop {v : Value} (hq : cm_N y pc .pop 1 pc') (hc : v.category = 1) (k : cm_Ex l g d mc ms y pc' ls (st) I L R ds Q) : cm_Ex l g d mc ms y pc ls (v :: st) I L R ds Q := by
  obtain ⟨hdg, rfl⟩ := hq
  exact fun p e Rm s m args below meth c H locs cells slots kc ks als C w hS hl hr => lv_pop C.1 C.2.1 hdg ((cm_cat C.2.2.2.2.2.2.2.2.1.2.1 v).trans hc) (k p e Rm s m args below meth c H locs cells slots kc ks als C w hS hl hr)
theorem x_dup2 {v v2 : Value} (hq : cm_N y pc .dup2 1 pc') (hc : v.category = 1) (hc2 : v2.category = 1) (k : cm_Ex l g d mc ms y pc' ls (v :: v2 :: v :: v2 :: st) I L R ds Q) : cm_Ex l g d mc ms y pc ls (v :: v2 :: st) I L R ds Q := by
  obtain ⟨hdg, rfl⟩ := hq
  exact fun p e Rm s m args below meth c H locs cells slots kc ks als C w hS hl hr => lv_dup2_11 C.1 C.2.1 hdg ((cm_cat C.2.2.2.2.2.2.2.2.1.2.1 v).trans hc) ((cm_cat C.2.2.2.2.2.2.2.2.1.2.1 v2).trans hc2) (k p e Rm s m args below meth c H locs cells slots kc ks als C w hS hl hr)
theorem x_if_eq {off : Int} {tgt : Nat} {a : Int32} (hq : cm_N y pc (.ifCond .eq off) 3 pc') (ht : (pc : Int) + off = (tgt : Int)) (kt : a = 0 → cm_Ex l g d mc ms y tgt ls (st) I L R ds Q) (kf : ¬ a = 0 → cm_Ex l g d mc ms y pc' ls (st) I L R ds Q) : cm_Ex l g d mc ms y pc ls (.int a :: st) I L R ds Q := by
  obtain ⟨hdg, rfl⟩ := hq
  exact fun p e Rm s m args below meth c H locs cells slots kc ks als C w hS hl hr => lv_if_eq C.1 C.2.1 hdg ht (fun h => kt h p e Rm s m args below meth c H locs cells slots kc ks als C w hS hl hr) (fun h => kf h p e Rm s m args below meth c H locs cells slots kc ks als C w hS hl hr)
theorem x_icmp_eq {off : Int} {tgt : Nat} {a b : Int32} (hq : cm_N y pc (.if_icmp .eq off) 3 pc') (ht : (pc : Int) + off = (tgt : Int)) (kt : a = b → cm_Ex l g d mc ms y tgt ls (st) I L R ds Q) (kf : ¬ a = b → cm_Ex l g d mc ms y pc' ls (st) I L R ds Q) : cm_Ex l g d mc ms y pc ls (.int b :: .int a :: st) I L R ds Q := by
  obtain ⟨hdg, rfl⟩ := hq
  exact fun p e Rm s m args below meth c H locs cells slots kc ks als C w hS hl hr => lv_icmp_eq C.1 C.2.1 hdg ht (fun h => kt h p e Rm s m args below meth c H locs cells slots kc ks als C w hS hl hr) (fun h => kf h p e Rm s m args below meth c H locs cells slots kc ks als C w hS hl hr)
theorem x_if_ne {off : Int} {tgt : Nat} {a : Int32} (hq : cm_N y pc (.ifCond .ne off) 3 pc') (ht : (pc : Int) + off = (tgt : Int)) (kt : ¬ a = 0 → cm_Ex l g d mc ms y tgt ls (st) I L R ds Q) (kf : a = 0 → cm_Ex l g d mc ms y pc' ls (st) I L R ds Q) : cm_Ex l g d mc ms y pc ls (.int a :: st) I L R ds Q := by
  obtain ⟨hdg, rfl⟩ := hq
  exact fun p e Rm s m args below meth c H locs cells slots kc ks als C w hS hl hr => lv_if_ne C.1 C.2.1 hdg ht (fun h => kt h p e Rm s m args below meth c H locs cells slots kc ks als C w hS hl hr) (fun h => kf h p e Rm s m args below meth c H locs cells slots kc ks als C w hS hl hr)
theorem x_icmp_ne {off : Int} {tgt : Nat} {a b : Int32} (hq : cm_N y pc (.if_icmp .ne off) 3 pc') (ht : (pc : Int) + off = (tgt : Int)) (kt : ¬ a = b → cm_Ex l g d mc ms y tgt ls (st) I L R ds Q) (kf : a = b → cm_Ex l g d mc ms y pc' ls (st) I L R ds Q) : cm_Ex l g d mc ms y pc ls (.int b :: .int a :: st) I L R ds Q := by
  obtain ⟨hdg, rfl⟩ := hq
  exact fun p e Rm s m args below meth c H locs cells slots kc ks als C w hS hl hr => lv_icmp_ne C.1 C.2.1 hdg ht (fun h => kt h p e Rm s m args below meth c H locs cells slots kc ks als C w hS hl hr) (fun h => kf h p e Rm s m args below meth c H locs cells slots kc ks als C w hS hl hr)
theorem x_if_lt {off : Int} {tgt : Nat} {a : Int32} (hq : cm_N y pc (.ifCond .lt off) 3 pc') (ht : (pc : Int) + off = (tgt : Int)) (kt : a < 0 → cm_Ex l g d mc ms y tgt ls (st) I L R ds Q) (kf : ¬ a < 0 → cm_Ex l g d mc ms y pc' ls (st) I L R ds Q) : cm_Ex l g d mc ms y pc ls (.int a :: st) I L R ds Q := by
  obtain ⟨hdg, rfl⟩ := hq
  exact fun p e Rm s m args below meth c H locs cells slots kc ks als C w hS hl hr => lv_if_lt C.1 C.2.1 hdg ht (fun h => kt h p e Rm s m args below meth c H locs cells slots kc ks als C w hS hl hr) (fun h => kf h p e Rm s m args below meth c H locs cells slots kc ks als C w hS hl hr)
theorem x_icmp_lt {off : Int} {tgt : Nat} {a b : Int32} (hq : cm_N y pc (.if_icmp .lt off) 3 pc') (ht : (pc : Int) + off = (tgt : Int)) (kt : a < b → cm_Ex l g d mc ms y tgt ls (st) I L R ds Q) (kf : ¬ a < b → cm_Ex l g d mc ms y pc' ls (st) I L R ds Q) : cm_Ex l g d mc ms y pc ls (.int b :: .int a :: st) I L R ds Q := by
  obtain ⟨hdg, rfl⟩ := hq
  exact fun p e Rm s m args below meth c H locs cells slots kc ks als C w hS hl hr => lv_icmp_lt C.1 C.2.1 hdg ht (fun h => kt h p e Rm s m args below meth c H locs cells slots kc ks als C w hS hl hr) (fun h => kf h p e Rm s m args below meth c H locs cells slots kc ks als C w hS hl hr)
theorem x_if_ge {off : Int} {tgt : Nat} {a : Int32} (hq : cm_N y pc (.ifCond .ge off) 3 pc') (ht : (pc : Int) + off = (tgt : Int)) (kt : 0 ≤ a → cm_Ex l g d mc ms y tgt ls (st) I L R ds Q) (kf : ¬ 0 ≤ a → cm_Ex l g d mc ms y pc' ls (st) I L R ds Q) : cm_Ex l g d mc ms y pc ls (.int a :: st) I L R ds Q := by
  obtain ⟨hdg, rfl⟩ := hq
  exact fun p e Rm s m args below meth c H locs cells slots kc ks als C w hS hl hr => lv_if_ge C.1 C.2.1 hdg ht (fun h => kt h p e Rm s m args below meth c H locs cells slots kc ks als C w hS hl hr) (fun h => kf h p e Rm s m args below meth c H locs cells slots kc ks als C w hS hl hr)
theorem x_icmp_ge {off : Int} {tgt : Nat} {a b : Int32} (hq : cm_N y pc (.if_icmp .ge off) 3 pc') (ht : (pc : Int) + off = (tgt : Int)) (kt : b ≤ a → cm_Ex l g d mc ms y tgt ls (st) I L R ds Q) (kf : ¬ b ≤ a → cm_Ex l g d mc ms y pc' ls (st) I L R ds Q) : cm_Ex l g d mc ms y pc ls (.int b :: .int a :: st) I L R ds Q := by
  obtain ⟨hdg, rfl⟩ := hq
  exact fun p e Rm s m args below meth c H locs cells slots kc ks als C w hS hl hr => lv_icmp_ge C.1 C.2.1 hdg ht (fun h => kt h p e Rm s m args below meth c H locs cells slots kc ks als C w hS hl hr) (fun h => kf h p e Rm s m args below meth c H locs cells slots kc ks als C w hS hl hr)
theorem x_if_gt {off : Int} {tgt : Nat} {a : Int32} (hq : cm_N y pc (.ifCond .gt off) 3 pc') (ht : (pc : Int) + off = (tgt : Int)) (kt : 0 < a → cm_Ex l g d mc ms y tgt ls (st) I L R ds Q) (kf : ¬ 0 < a → cm_Ex l g d mc ms y pc' ls (st) I L R ds Q) : cm_Ex l g d mc ms y pc ls (.int a :: st) I L R ds Q := by
  obtain ⟨hdg, rfl⟩ := hq
  exact fun p e Rm s m args below meth c H locs cells slots kc ks als C w hS hl hr => lv_if_gt C.1 C.2.1 hdg ht (fun h => kt h p e Rm s m args below meth c H locs cells slots kc ks als C w hS hl hr) (fun h => kf h p e Rm s m args below meth c H locs cells slots kc ks als C w hS hl hr)
theorem x_icmp_gt {off : Int} {tgt : Nat} {a b : Int32} (hq : cm_N y pc (.if_icmp .gt off) 3 pc') (ht : (pc : Int) + off = (tgt : Int)) (kt : b < a → cm_Ex l g d mc ms y tgt ls (st) I L R ds Q) (kf : ¬ b < a → cm_Ex l g d mc ms y pc' ls (st) I L R ds Q) : cm_Ex l g d mc ms y pc ls (.int b :: .int a :: st) I L R ds Q := by
  obtain ⟨hdg, rfl⟩ := hq
  exact fun p e Rm s m args below meth c H locs cells slots kc ks als C w hS hl hr => lv_icmp_gt C.1 C.2.1 hdg ht (fun h => kt h p e Rm s m args below meth c H locs cells slots kc ks als C w hS hl hr) (fun h => kf h p e Rm s m args below meth c H locs cells slots kc ks als C w hS hl hr)
theorem x_if_le {off : Int} {tgt : Nat} {a : Int32} (hq : cm_N y pc (.ifCond .le off) 3 pc') (ht : (pc : Int) + off = (tgt : Int)) (kt : a ≤ 0 → cm_Ex l g d mc ms y tgt ls (st) I L R ds Q) (kf : ¬ a ≤ 0 → cm_Ex l g d mc ms y pc' ls (st) I L R ds Q) : cm_Ex l g d mc ms y pc ls (.int a :: st) I L R ds Q := by
  obtain ⟨hdg, rfl⟩ := hq
  exact fun p e Rm s m args below meth c H locs cells slots kc ks als C w hS hl hr => lv_if_le C.1 C.2.1 hdg ht (fun h => kt h p e Rm s m args below meth c H locs cells slots kc ks als C w hS hl hr) (fun h => kf h p e Rm s m args below meth c H locs cells slots kc ks als C w hS hl hr)
theorem x_icmp_le {off : Int} {tgt : Nat} {a b : Int32} (hq : cm_N y pc (.if_icmp .le off) 3 pc') (ht : (pc : Int) + off = (tgt : Int)) (kt : a ≤ b → cm_Ex l g d mc ms y tgt ls (st) I L R ds Q) (kf : ¬ a ≤ b → cm_Ex l g d mc ms y pc' ls (st) I L R ds Q) : cm_Ex l g d mc ms y pc ls (.int b :: .int a :: st) I L R ds Q := by
  obtain ⟨hdg, rfl⟩ := hq
  exact fun p e Rm s m args below meth c H locs cells slots kc ks als C w hS hl hr => lv_icmp_le C.1 C.2.1 hdg ht (fun h => kt h p e Rm s m args below meth c H locs cells slots kc ks als C w hS hl hr) (fun h => kf h p e Rm s m args below meth c H locs cells slots kc ks als C w hS hl hr)
theorem x_goto {off : Int} {tgt : Nat} (hq : cm_N y pc (.goto off) 3 pc') (ht : (pc : Int) + off = (tgt : Int)) (k : cm_Ex l g d mc ms y tgt ls (st) I L R ds Q) : cm_Ex l g d mc ms y pc ls (st) I L R ds Q := fun p e Rm s m args below meth c H locs cells slots kc ks als C w hS hl hr => lv_goto C.1 C.2.1 hq.1 ht (k p e Rm s m args below meth c H locs cells slots kc ks als C w hS hl hr)
theorem x_ifnonnull {off : Int} {tgt : Nat} {a : Nat} (hq : cm_N y pc (.ifnonnull off) 3 pc') (ht : (pc : Int) + off = (tgt : Int)) (k : cm_Ex l g d mc ms y tgt ls (st) I L R ds Q) : cm_Ex l g d mc ms y pc ls (.ref a :: st) I L R ds Q := by
  obtain ⟨hdg, rfl⟩ := hq
  exact fun p e Rm s m args below meth c H locs cells slots kc ks als C w hS hl hr => lv_ifnonnull C.1 C.2.1 hdg ht (k p e Rm s m args below meth c H locs cells slots kc ks als C w hS hl hr)
theorem x_ifnull_n {off : Int} {tgt : Nat} {a : Nat} (hq : cm_N y pc (.ifnull off) 3 pc') (ht : (pc : Int) + off = (tgt : Int)) (k : cm_Ex l g d mc ms y tgt ls (st) I L R ds Q) : cm_Ex l g d mc ms y pc ls (.null :: st) I L R ds Q := by
  obtain ⟨hdg, rfl⟩ := hq
  exact fun p e Rm s m args below meth c H locs cells slots kc ks als C w hS hl hr => lv_ifnullN C.1 C.2.1 hdg ht (k p e Rm s m args below meth c H locs cells slots kc ks als C w hS hl hr)
theorem x_ifnull {off : Int} {a : Nat} (hq : cm_N y pc (.ifnull off) 3 pc') (k : cm_Ex l g d mc ms y pc' ls (st) I L R ds Q) : cm_Ex l g d mc ms y pc ls (.ref a :: st) I L R ds Q := by
  obtain ⟨hdg, rfl⟩ := hq
  exact fun p e Rm s m args below meth c H locs cells slots kc ks als C w hS hl hr => lv_ifnull C.1 C.2.1 hdg (k p e Rm s m args below meth c H locs cells slots kc ks als C w hS hl hr)
theorem x_ifnonnull_n {off : Int} {a : Nat} (hq : cm_N y pc (.ifnonnull off) 3 pc') (k : cm_Ex l g d mc ms y pc' ls (st) I L R ds Q) : cm_Ex l g d mc ms y pc ls (.null :: st) I L R ds Q := by
  obtain ⟨hdg, rfl⟩ := hq
  exact fun p e Rm s m args below meth c H locs cells slots kc ks als C w hS hl hr => lv_ifnonnullN C.1 C.2.1 hdg (k p e Rm s m args below meth c H locs cells slots kc ks als C w hS hl hr)
theorem x_tblOut {dflt lo hi : Int} {offs : Array Int} {len : Nat} {a : Int32} {tgt : Nat} (hq : cm_N y pc (.tableswitch dflt lo hi offs) len pc') (h : a.toInt < lo ∨ hi < a.toInt) (ht : (pc : Int) + dflt = (tgt : Int)) (k : cm_Ex l g d mc ms y tgt ls (st) I L R ds Q) : cm_Ex l g d mc ms y pc ls (.int a :: st) I L R ds Q := fun p e Rm s m args below meth c H locs cells slots kc ks als C w hS hl hr => lv_tableOut C.1 C.2.1 hq.1 h ht (k p e Rm s m args below meth c H locs cells slots kc ks als C w hS hl hr)
theorem x_tblIn {dflt lo hi : Int} {offs : Array Int} {len : Nat} {a : Int32} {off : Int} {tgt : Nat} (hq : cm_N y pc (.tableswitch dflt lo hi offs) len pc') (h1 : ¬ a.toInt < lo) (h2 : ¬ hi < a.toInt) (ho : offs[(a.toInt - lo).toNat]? = some off) (ht : (pc : Int) + off = (tgt : Int)) (k : cm_Ex l g d mc ms y tgt ls (st) I L R ds Q) : cm_Ex l g d mc ms y pc ls (.int a :: st) I L R ds Q := fun p e Rm s m args below meth c H locs cells slots kc ks als C w hS hl hr => lv_tableIn C.1 C.2.1 hq.1 h1 h2 ho ht (k p e Rm s m args below meth c H locs cells slots kc ks als C w hS hl hr)
theorem x_lkp {dflt : Int} {ps : Array (Int × Int)} {len : Nat} {a : Int32} {off : Int} {tgt : Nat} (hq : cm_N y pc (.lookupswitch dflt ps) len pc') (hp : (ps.toList.zip (ps.toList.drop 1)).all (fun (a, next) => a.1 < next.1) = true) (ho : Op.lookupswitch.offset ps.toList dflt a.toInt = off) (ht : (pc : Int) + off = (tgt : Int)) (k : cm_Ex l g d mc ms y tgt ls (st) I L R ds Q) : cm_Ex l g d mc ms y pc ls (.int a :: st) I L R ds Q := fun p e Rm s m args below meth c H locs cells slots kc ks als C w hS hl hr => lv_lookup C.1 C.2.1 hq.1 hp ho ht (k p e Rm s m args below meth c H locs cells slots kc ks als C w hS hl hr)
theorem x_ild {i : Nat} {a : Int32} (hq : cm_N y pc (.iload i) 2 pc') (hv : ls[i]? = some (.int a)) (k : cm_Ex l g d mc ms y pc' ls (.int a :: st) I L R ds Q) : cm_Ex l g d mc ms y pc ls (st) I L R ds Q := by
  obtain ⟨hdg, rfl⟩ := hq
  exact fun p e Rm s m args below meth c H locs cells slots kc ks als C w hS hl hr => lv_iload C.1 C.2.1 hdg (cm_lv_at hl hv (fun b h => by cases h)) (k p e Rm s m args below meth c H locs cells slots kc ks als C w hS hl hr)
theorem x_lld {i : Nat} {a : Int64} (hq : cm_N y pc (.lload i) 2 pc') (hv : ls[i]? = some (.long a)) (k : cm_Ex l g d mc ms y pc' ls (.long a :: st) I L R ds Q) : cm_Ex l g d mc ms y pc ls (st) I L R ds Q := by
  obtain ⟨hdg, rfl⟩ := hq
  exact fun p e Rm s m args below meth c H locs cells slots kc ks als C w hS hl hr => lv_lload C.1 C.2.1 hdg (cm_lv_at hl hv (fun b h => by cases h)) (k p e Rm s m args below meth c H locs cells slots kc ks als C w hS hl hr)
theorem x_ildn {i : Fin 4} {a : Int32} (hq : cm_N y pc (.iload_n i) 1 pc') (hv : ls[(i : Nat)]? = some (.int a)) (k : cm_Ex l g d mc ms y pc' ls (.int a :: st) I L R ds Q) : cm_Ex l g d mc ms y pc ls (st) I L R ds Q := by
  obtain ⟨hdg, rfl⟩ := hq
  exact fun p e Rm s m args below meth c H locs cells slots kc ks als C w hS hl hr => lv_iload_n C.1 C.2.1 hdg rfl (cm_lv_at hl hv (fun b h => by cases h)) (k p e Rm s m args below meth c H locs cells slots kc ks als C w hS hl hr)
theorem x_lldn {i : Fin 4} {a : Int64} (hq : cm_N y pc (.lload_n i) 1 pc') (hv : ls[(i : Nat)]? = some (.long a)) (k : cm_Ex l g d mc ms y pc' ls (.long a :: st) I L R ds Q) : cm_Ex l g d mc ms y pc ls (st) I L R ds Q := by
  obtain ⟨hdg, rfl⟩ := hq
  exact fun p e Rm s m args below meth c H locs cells slots kc ks als C w hS hl hr => lv_lload_n C.1 C.2.1 hdg rfl (cm_lv_at hl hv (fun b h => by cases h)) (k p e Rm s m args below meth c H locs cells slots kc ks als C w hS hl hr)
theorem x_aldn {i : Fin 4} {v : Value} (hq : cm_N y pc (.aload_n i) 1 pc') (hv : ls[(i : Nat)]? = some v) (hi : cm_isr v) (k : cm_Ex l g d mc ms y pc' ls (v :: st) I L R ds Q) : cm_Ex l g d mc ms y pc ls (st) I L R ds Q := by
  obtain ⟨hdg, rfl⟩ := hq
  intro p e Rm s m args below meth c H locs cells slots kc ks als C w hS hl hr
  have k1 := k p e Rm s m args below meth c H locs cells slots kc ks als C w hS hl hr
  have h1 := cm_lv_at hl hv (fun b h => by rw [h] at hi; exact hi)
  rw [List.map_cons] at k1
  cases v with
  | ref a => exact lv_aload_n C.1 C.2.1 hdg rfl h1 k1
  | null => exact lv_aload_nN C.1 C.2.1 hdg rfl h1 k1
  | retAddr j =>
    rcases C.2.2.2.2.2.2.2.2.1.2.1 j with ⟨t, ht⟩ | ht
    · rw [show cm_em g (.retAddr j) = .ref t from ht] at k1 h1
      exact lv_aload_n C.1 C.2.1 hdg rfl h1 k1
    · rw [show cm_em g (.retAddr j) = .null from ht] at k1 h1
      exact lv_aload_nN C.1 C.2.1 hdg rfl h1 k1
  | _ => exact absurd hi (fun h => h)
theorem x_ald {i : Nat} {v : Value} (hq : cm_N y pc (.aload i) 2 pc') (hv : ls[(i : Nat)]? = some v) (hi : cm_isr v) (k : cm_Ex l g d mc ms y pc' ls (v :: st) I L R ds Q) : cm_Ex l g d mc ms y pc ls (st) I L R ds Q := by
  obtain ⟨hdg, rfl⟩ := hq
  intro p e Rm s m args below meth c H locs cells slots kc ks als C w hS hl hr
  have k1 := k p e Rm s m args below meth c H locs cells slots kc ks als C w hS hl hr
  have h1 := cm_lv_at hl hv (fun b h => by rw [h] at hi; exact hi)
  rw [List.map_cons] at k1
  cases v with
  | ref a => exact lv_aload C.1 C.2.1 hdg h1 k1
  | null => exact lv_aloadN C.1 C.2.1 hdg h1 k1
  | retAddr j =>
    rcases C.2.2.2.2.2.2.2.2.1.2.1 j with ⟨t, ht⟩ | ht
    · rw [show cm_em g (.retAddr j) = .ref t from ht] at k1 h1
      exact lv_aload C.1 C.2.1 hdg h1 k1
    · rw [show cm_em g (.retAddr j) = .null from ht] at k1 h1
      exact lv_aloadN C.1 C.2.1 hdg h1 k1
  | _ => exact absurd hi (fun h => h)
theorem x_ist {i : Nat} {a : Int32} {ls' : List Value} (hq : cm_N y pc (.istore i) 2 pc') (hn : (i : Nat) < y.2.2.1) (hls : ls.set (i : Nat) (.int a) = ls') (hc : ∀ w, 0 < (i : Nat) → ls[(i : Nat) - 1]? = some w → w.category = 1) (k : cm_Ex l g d mc ms y pc' ls' (st) I L R ds Q) : cm_Ex l g d mc ms y pc ls (.int a :: st) I L R ds Q := by
  obtain ⟨hdg, rfl⟩ := hq
  subst hls
  exact fun p e Rm s m args below meth c H locs cells slots kc ks als C w hS hl hr => lv_istore C.1 C.2.1 hdg hl hn rfl (fun als' hl' => k p e Rm s m args below meth c H locs cells slots kc ks als' C w hS (cm_lv_st1 C.2.2.2.2.2.2.2.2.1.2.1 hl' hc) hr)
theorem x_istn {i : Fin 4} {a : Int32} {ls' : List Value} (hq : cm_N y pc (.istore_n i) 1 pc') (hn : (i : Nat) < y.2.2.1) (hls : ls.set (i : Nat) (.int a) = ls') (hc : ∀ w, 0 < (i : Nat) → ls[(i : Nat) - 1]? = some w → w.category = 1) (k : cm_Ex l g d mc ms y pc' ls' (st) I L R ds Q) : cm_Ex l g d mc ms y pc ls (.int a :: st) I L R ds Q := by
  obtain ⟨hdg, rfl⟩ := hq
  subst hls
  exact fun p e Rm s m args below meth c H locs cells slots kc ks als C w hS hl hr => lv_istore_n C.1 C.2.1 hdg rfl hl hn rfl (fun als' hl' => k p e Rm s m args below meth c H locs cells slots kc ks als' C w hS (cm_lv_st1 C.2.2.2.2.2.2.2.2.1.2.1 hl' hc) hr)
theorem x_lst {i : Nat} {a : Int64} {ls' : List Value} (hq : cm_N y pc (.lstore i) 2 pc') (hn : (i : Nat) + 1 < y.2.2.1) (hls : (ls.set (i : Nat) (.long a)).set ((i : Nat) + 1) (.float 0) = ls') (hc : ∀ w, 0 < (i : Nat) → ls[(i : Nat) - 1]? = some w → w.category = 1) (k : cm_Ex l g d mc ms y pc' ls' (st) I L R ds Q) : cm_Ex l g d mc ms y pc ls (.long a :: st) I L R ds Q := by
  obtain ⟨hdg, rfl⟩ := hq
  subst hls
  exact fun p e Rm s m args below meth c H locs cells slots kc ks als C w hS hl hr => lv_lstore C.1 C.2.1 hdg hl hn rfl (fun als' hl' => k p e Rm s m args below meth c H locs cells slots kc ks als' C w hS (cm_lv_st2 C.2.2.2.2.2.2.2.2.1.2.1 hl' hc) hr)
theorem x_lstn {i : Fin 4} {a : Int64} {ls' : List Value} (hq : cm_N y pc (.lstore_n i) 1 pc') (hn : (i : Nat) + 1 < y.2.2.1) (hls : (ls.set (i : Nat) (.long a)).set ((i : Nat) + 1) (.float 0) = ls') (hc : ∀ w, 0 < (i : Nat) → ls[(i : Nat) - 1]? = some w → w.category = 1) (k : cm_Ex l g d mc ms y pc' ls' (st) I L R ds Q) : cm_Ex l g d mc ms y pc ls (.long a :: st) I L R ds Q := by
  obtain ⟨hdg, rfl⟩ := hq
  subst hls
  exact fun p e Rm s m args below meth c H locs cells slots kc ks als C w hS hl hr => lv_lstore_n C.1 C.2.1 hdg rfl hl hn rfl (fun als' hl' => k p e Rm s m args below meth c H locs cells slots kc ks als' C w hS (cm_lv_st2 C.2.2.2.2.2.2.2.2.1.2.1 hl' hc) hr)
theorem x_astn {i : Fin 4} {v : Value} {ls' : List Value} (hq : cm_N y pc (.astore_n i) 1 pc') (hn : (i : Nat) < y.2.2.1) (hi : cm_isr v) (hls : ls.set (i : Nat) v = ls') (hc : ∀ w, 0 < (i : Nat) → ls[(i : Nat) - 1]? = some w → w.category = 1) (k : cm_Ex l g d mc ms y pc' ls' (st) I L R ds Q) : cm_Ex l g d mc ms y pc ls (v :: st) I L R ds Q := by
  obtain ⟨hdg, rfl⟩ := hq
  subst hls
  intro p e Rm s m args below meth c H locs cells slots kc ks als C w hS hl hr
  have kk : ∀ als', lv_has als' y.2.2.1 ((i, cm_em g v) :: (cm_lv g 0 ls).filter (fun q => !(q.1 == (i : Nat)) && !(q.1 + 1 == (i : Nat) && q.2.category == 2))) → _ := fun als' hl' => k p e Rm s m args below meth c H locs cells slots kc ks als' C w hS (cm_lv_st1 C.2.2.2.2.2.2.2.2.1.2.1 hl' hc) hr
  rw [List.map_cons]
  cases v with
  | ref a => exact lv_astore_n C.1 C.2.1 hdg rfl hl hn rfl kk
  | null => exact lv_astore_nN C.1 C.2.1 hdg rfl hl hn rfl kk
  | retAddr j =>
    rcases C.2.2.2.2.2.2.2.2.1.2.1 j with ⟨t, ht⟩ | ht
    · rw [show cm_em g (.retAddr j) = .ref t from ht] at kk ⊢
      exact lv_astore_n C.1 C.2.1 hdg rfl hl hn rfl kk
    · rw [show cm_em g (.retAddr j) = .null from ht] at kk ⊢
      exact lv_astore_nN C.1 C.2.1 hdg rfl hl hn rfl kk
  | _ => exact absurd hi (fun h => h)
theorem x_ast {i : Nat} {v : Value} {ls' : List Value} (hq : cm_N y pc (.astore i) 2 pc') (hn : (i : Nat) < y.2.2.1) (hi : cm_isr v) (hls : ls.set (i : Nat) v = ls') (hc : ∀ w, 0 < (i : Nat) → ls[(i : Nat) - 1]? = some w → w.category = 1) (k : cm_Ex l g d mc ms y pc' ls' (st) I L R ds Q) : cm_Ex l g d mc ms y pc ls (v :: st) I L R ds Q := by
  obtain ⟨hdg, rfl⟩ := hq
  subst hls
  intro p e Rm s m args below meth c H locs cells slots kc ks als C w hS hl hr
  have kk : ∀ als', lv_has als' y.2.2.1 ((i, cm_em g v) :: (cm_lv g 0 ls).filter (fun q => !(q.1 == (i : Nat)) && !(q.1 + 1 == (i : Nat) && q.2.category == 2))) → _ := fun als' hl' => k p e Rm s m args below meth c H locs cells slots kc ks als' C w hS (cm_lv_st1 C.2.2.2.2.2.2.2.2.1.2.1 hl' hc) hr
  rw [List.map_cons]
  cases v with
  | ref a => exact lv_astore C.1 C.2.1 hdg hl hn rfl kk
  | null => exact lv_astoreN C.1 C.2.1 hdg hl hn rfl kk
  | retAddr j =>
    rcases C.2.2.2.2.2.2.2.2.1.2.1 j with ⟨t, ht⟩ | ht
    · rw [show cm_em g (.retAddr j) = .ref t from ht] at kk ⊢
      exact lv_astore C.1 C.2.1 hdg hl hn rfl kk
    · rw [show cm_em g (.retAddr j) = .null from ht] at kk ⊢
      exact lv_astoreN C.1 C.2.1 hdg hl hn rfl kk
  | _ => exact absurd hi (fun h => h)
theorem x_iinc {i : Nat} {n : Int} {a v : Int32} {ls' : List Value} (hq : cm_N y pc (.iinc i n) 3 pc') (hn : i < y.2.2.1) (ha : ls[i]? = some (.int a)) (hv : a + Int32.ofInt n = v) (hls : ls.set i (.int v) = ls') (hc : ∀ w, 0 < i → ls[i - 1]? = some w → w.category = 1) (k : cm_Ex l g d mc ms y pc' ls' (st) I L R ds Q) : cm_Ex l g d mc ms y pc ls (st) I L R ds Q := by
  obtain ⟨hdg, rfl⟩ := hq
  subst hls
  intro p e Rm s m args below meth c H locs cells slots kc ks als C w hS hl hr
  have hm : (i, Value.int a) ∈ cm_lv g 0 ls := by
    have h1 := cm_lv_in (g := g) (i := 0) ha (fun b h => by cases h)
    simpa [cm_em] using h1
  obtain ⟨k0, hk0⟩ := List.getElem?_of_mem hm
  exact lv_iinc C.1 C.2.1 hdg hl hk0 hv hn rfl (fun als' hl' => k p e Rm s m args below meth c H locs cells slots kc ks als' C w hS (cm_lv_st1 C.2.2.2.2.2.2.2.2.1.2.1 hl' hc) hr)
end CM
