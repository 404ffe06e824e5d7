/-! simple rows of the abstract machine (written by wip/gen/rules.py) -/
theorem vm_r_iconst {E : vm_E} {y : vm_M} {kc ks pc : Nat} {lv : vm_L} {st : List Value} {h : vm_H} {Q : Option Value → vm_H → Prop} {n : Int} (hd : decode y.2.1 pc = .ok (.iconst n, 1))  (k : vm_T E y kc ks (pc + 1) lv (.int (Int32.ofInt n) :: st) h Q) : vm_T E y kc ks pc lv (st) h Q := by
  intro G p e R s m args below meth c H locs cells slots mc ms ls X I hL hl hc hs
  exact lv_iconst X.1 X.2.1 hd rfl (k G p e R s m args below meth c H locs cells slots mc ms ls X I hL hl hc hs)
theorem vm_r_bipush {E : vm_E} {y : vm_M} {kc ks pc : Nat} {lv : vm_L} {st : List Value} {h : vm_H} {Q : Option Value → vm_H → Prop} {n : Int} (hd : decode y.2.1 pc = .ok (.bipush n, 2))  (k : vm_T E y kc ks (pc + 2) lv (.int (Int8.ofInt n).toInt32 :: st) h Q) : vm_T E y kc ks pc lv (st) h Q := by
  intro G p e R s m args below meth c H locs cells slots mc ms ls X I hL hl hc hs
  exact lv_bipush X.1 X.2.1 hd rfl (k G p e R s m args below meth c H locs cells slots mc ms ls X I hL hl hc hs)
theorem vm_r_sipush {E : vm_E} {y : vm_M} {kc ks pc : Nat} {lv : vm_L} {st : List Value} {h : vm_H} {Q : Option Value → vm_H → Prop} {n : Int} (hd : decode y.2.1 pc = .ok (.sipush n, 3))  (k : vm_T E y kc ks (pc + 3) lv (.int (Int16.ofInt n).toInt32 :: st) h Q) : vm_T E y kc ks pc lv (st) h Q := by
  intro G p e R s m args below meth c H locs cells slots mc ms ls X I hL hl hc hs
  exact lv_sipush X.1 X.2.1 hd rfl (k G p e R s m args below meth c H locs cells slots mc ms ls X I hL hl hc hs)
theorem vm_r_lconst {E : vm_E} {y : vm_M} {kc ks pc : Nat} {lv : vm_L} {st : List Value} {h : vm_H} {Q : Option Value → vm_H → Prop} {n : Fin 2} (hd : decode y.2.1 pc = .ok (.lconst n, 1))  (k : vm_T E y kc ks (pc + 1) lv (.long (Int64.ofNat (n : Nat)) :: st) h Q) : vm_T E y kc ks pc lv (st) h Q := by
  intro G p e R s m args below meth c H locs cells slots mc ms ls X I hL hl hc hs
  exact lv_lconst X.1 X.2.1 hd rfl (k G p e R s m args below meth c H locs cells slots mc ms ls X I hL hl hc hs)
theorem vm_r_null {E : vm_E} {y : vm_M} {kc ks pc : Nat} {lv : vm_L} {st : List Value} {h : vm_H} {Q : Option Value → vm_H → Prop}  (hd : decode y.2.1 pc = .ok (.aconst_null, 1))  (k : vm_T E y kc ks (pc + 1) lv (.null :: st) h Q) : vm_T E y kc ks pc lv (st) h Q := by
  intro G p e R s m args below meth c H locs cells slots mc ms ls X I hL hl hc hs
  exact lv_null X.1 X.2.1 hd  (k G p e R s m args below meth c H locs cells slots mc ms ls X I hL hl hc hs)
theorem vm_r_iadd {E : vm_E} {y : vm_M} {kc ks pc : Nat} {lv : vm_L} {st : List Value} {h : vm_H} {Q : Option Value → vm_H → Prop} {x z : Int32} (hd : decode y.2.1 pc = .ok (.iadd, 1))  (k : vm_T E y kc ks (pc + 1) lv (.int (x + z) :: st) h Q) : vm_T E y kc ks pc lv (.int z :: .int x :: st) h Q := by
  intro G p e R s m args below meth c H locs cells slots mc ms ls X I hL hl hc hs
  exact lv_iadd X.1 X.2.1 hd  (k G p e R s m args below meth c H locs cells slots mc ms ls X I hL hl hc hs)
theorem vm_r_isub {E : vm_E} {y : vm_M} {kc ks pc : Nat} {lv : vm_L} {st : List Value} {h : vm_H} {Q : Option Value → vm_H → Prop} {x z : Int32} (hd : decode y.2.1 pc = .ok (.isub, 1))  (k : vm_T E y kc ks (pc + 1) lv (.int (x - z) :: st) h Q) : vm_T E y kc ks pc lv (.int z :: .int x :: st) h Q := by
  intro G p e R s m args below meth c H locs cells slots mc ms ls X I hL hl hc hs
  exact lv_isub X.1 X.2.1 hd  (k G p e R s m args below meth c H locs cells slots mc ms ls X I hL hl hc hs)
theorem vm_r_imul {E : vm_E} {y : vm_M} {kc ks pc : Nat} {lv : vm_L} {st : List Value} {h : vm_H} {Q : Option Value → vm_H → Prop} {x z : Int32} (hd : decode y.2.1 pc = .ok (.imul, 1))  (k : vm_T E y kc ks (pc + 1) lv (.int (x * z) :: st) h Q) : vm_T E y kc ks pc lv (.int z :: .int x :: st) h Q := by
  intro G p e R s m args below meth c H locs cells slots mc ms ls X I hL hl hc hs
  exact lv_imul X.1 X.2.1 hd  (k G p e R s m args below meth c H locs cells slots mc ms ls X I hL hl hc hs)
theorem vm_r_iand {E : vm_E} {y : vm_M} {kc ks pc : Nat} {lv : vm_L} {st : List Value} {h : vm_H} {Q : Option Value → vm_H → Prop} {x z : Int32} (hd : decode y.2.1 pc = .ok (.iand, 1))  (k : vm_T E y kc ks (pc + 1) lv (.int (x &&& z) :: st) h Q) : vm_T E y kc ks pc lv (.int z :: .int x :: st) h Q := by
  intro G p e R s m args below meth c H locs cells slots mc ms ls X I hL hl hc hs
  exact lv_iand X.1 X.2.1 hd  (k G p e R s m args below meth c H locs cells slots mc ms ls X I hL hl hc hs)
theorem vm_r_ior {E : vm_E} {y : vm_M} {kc ks pc : Nat} {lv : vm_L} {st : List Value} {h : vm_H} {Q : Option Value → vm_H → Prop} {x z : Int32} (hd : decode y.2.1 pc = .ok (.ior, 1))  (k : vm_T E y kc ks (pc + 1) lv (.int (x ||| z) :: st) h Q) : vm_T E y kc ks pc lv (.int z :: .int x :: st) h Q := by
  intro G p e R s m args below meth c H locs cells slots mc ms ls X I hL hl hc hs
  exact lv_ior X.1 X.2.1 hd  (k G p e R s m args below meth c H locs cells slots mc ms ls X I hL hl hc hs)
theorem vm_r_ixor {E : vm_E} {y : vm_M} {kc ks pc : Nat} {lv : vm_L} {st : List Value} {h : vm_H} {Q : Option Value → vm_H → Prop} {x z : Int32} (hd : decode y.2.1 pc = .ok (.ixor, 1))  (k : vm_T E y kc ks (pc + 1) lv (.int (x ^^^ z) :: st) h Q) : vm_T E y kc ks pc lv (.int z :: .int x :: st) h Q := by
  intro G p e R s m args below meth c H locs cells slots mc ms ls X I hL hl hc hs
  exact lv_ixor X.1 X.2.1 hd  (k G p e R s m args below meth c H locs cells slots mc ms ls X I hL hl hc hs)
theorem vm_r_ishl {E : vm_E} {y : vm_M} {kc ks pc : Nat} {lv : vm_L} {st : List Value} {h : vm_H} {Q : Option Value → vm_H → Prop} {x z : Int32} (hd : decode y.2.1 pc = .ok (.ishl, 1))  (k : vm_T E y kc ks (pc + 1) lv (.int (x <<< (z &&& 31)) :: st) h Q) : vm_T E y kc ks pc lv (.int z :: .int x :: st) h Q := by
  intro G p e R s m args below meth c H locs cells slots mc ms ls X I hL hl hc hs
  exact lv_ishl X.1 X.2.1 hd  (k G p e R s m args below meth c H locs cells slots mc ms ls X I hL hl hc hs)
theorem vm_r_ishr {E : vm_E} {y : vm_M} {kc ks pc : Nat} {lv : vm_L} {st : List Value} {h : vm_H} {Q : Option Value → vm_H → Prop} {x z : Int32} (hd : decode y.2.1 pc = .ok (.ishr, 1))  (k : vm_T E y kc ks (pc + 1) lv (.int (x >>> (z &&& 31)) :: st) h Q) : vm_T E y kc ks pc lv (.int z :: .int x :: st) h Q := by
  intro G p e R s m args below meth c H locs cells slots mc ms ls X I hL hl hc hs
  exact lv_ishr X.1 X.2.1 hd  (k G p e R s m args below meth c H locs cells slots mc ms ls X I hL hl hc hs)
theorem vm_r_ladd {E : vm_E} {y : vm_M} {kc ks pc : Nat} {lv : vm_L} {st : List Value} {h : vm_H} {Q : Option Value → vm_H → Prop} {x z : Int64} (hd : decode y.2.1 pc = .ok (.ladd, 1))  (k : vm_T E y kc ks (pc + 1) lv (.long (x + z) :: st) h Q) : vm_T E y kc ks pc lv (.long z :: .long x :: st) h Q := by
  intro G p e R s m args below meth c H locs cells slots mc ms ls X I hL hl hc hs
  exact lv_ladd X.1 X.2.1 hd  (k G p e R s m args below meth c H locs cells slots mc ms ls X I hL hl hc hs)
theorem vm_r_lsub {E : vm_E} {y : vm_M} {kc ks pc : Nat} {lv : vm_L} {st : List Value} {h : vm_H} {Q : Option Value → vm_H → Prop} {x z : Int64} (hd : decode y.2.1 pc = .ok (.lsub, 1))  (k : vm_T E y kc ks (pc + 1) lv (.long (x - z) :: st) h Q) : vm_T E y kc ks pc lv (.long z :: .long x :: st) h Q := by
  intro G p e R s m args below meth c H locs cells slots mc ms ls X I hL hl hc hs
  exact lv_lsub X.1 X.2.1 hd  (k G p e R s m args below meth c H locs cells slots mc ms ls X I hL hl hc hs)
theorem vm_r_lmul {E : vm_E} {y : vm_M} {kc ks pc : Nat} {lv : vm_L} {st : List Value} {h : vm_H} {Q : Option Value → vm_H → Prop} {x z : Int64} (hd : decode y.2.1 pc = .ok (.lmul, 1))  (k : vm_T E y kc ks (pc + 1) lv (.long (x * z) :: st) h Q) : vm_T E y kc ks pc lv (.long z :: .long x :: st) h Q := by
  intro G p e R s m args below meth c H locs cells slots mc ms ls X I hL hl hc hs
  exact lv_lmul X.1 X.2.1 hd  (k G p e R s m args below meth c H locs cells slots mc ms ls X I hL hl hc hs)
theorem vm_r_land {E : vm_E} {y : vm_M} {kc ks pc : Nat} {lv : vm_L} {st : List Value} {h : vm_H} {Q : Option Value → vm_H → Prop} {x z : Int64} (hd : decode y.2.1 pc = .ok (.land, 1))  (k : vm_T E y kc ks (pc + 1) lv (.long (x &&& z) :: st) h Q) : vm_T E y kc ks pc lv (.long z :: .long x :: st) h Q := by
  intro G p e R s m args below meth c H locs cells slots mc ms ls X I hL hl hc hs
  exact lv_land X.1 X.2.1 hd  (k G p e R s m args below meth c H locs cells slots mc ms ls X I hL hl hc hs)
theorem vm_r_lor {E : vm_E} {y : vm_M} {kc ks pc : Nat} {lv : vm_L} {st : List Value} {h : vm_H} {Q : Option Value → vm_H → Prop} {x z : Int64} (hd : decode y.2.1 pc = .ok (.lor, 1))  (k : vm_T E y kc ks (pc + 1) lv (.long (x ||| z) :: st) h Q) : vm_T E y kc ks pc lv (.long z :: .long x :: st) h Q := by
  intro G p e R s m args below meth c H locs cells slots mc ms ls X I hL hl hc hs
  exact lv_lor X.1 X.2.1 hd  (k G p e R s m args below meth c H locs cells slots mc ms ls X I hL hl hc hs)
theorem vm_r_lxor {E : vm_E} {y : vm_M} {kc ks pc : Nat} {lv : vm_L} {st : List Value} {h : vm_H} {Q : Option Value → vm_H → Prop} {x z : Int64} (hd : decode y.2.1 pc = .ok (.lxor, 1))  (k : vm_T E y kc ks (pc + 1) lv (.long (x ^^^ z) :: st) h Q) : vm_T E y kc ks pc lv (.long z :: .long x :: st) h Q := by
  intro G p e R s m args below meth c H locs cells slots mc ms ls X I hL hl hc hs
  exact lv_lxor X.1 X.2.1 hd  (k G p e R s m args below meth c H locs cells slots mc ms ls X I hL hl hc hs)
theorem vm_r_iushr {E : vm_E} {y : vm_M} {kc ks pc : Nat} {lv : vm_L} {st : List Value} {h : vm_H} {Q : Option Value → vm_H → Prop} {x z : Int32} (hd : decode y.2.1 pc = .ok (.iushr, 1))  (k : vm_T E y kc ks (pc + 1) lv (.int (x.toUInt32 >>> (z.toUInt32 &&& Int32.toUInt32 31)).toInt32 :: st) h Q) : vm_T E y kc ks pc lv (.int z :: .int x :: st) h Q := by
  intro G p e R s m args below meth c H locs cells slots mc ms ls X I hL hl hc hs
  exact lv_iushr X.1 X.2.1 hd rfl (k G p e R s m args below meth c H locs cells slots mc ms ls X I hL hl hc hs)
theorem vm_r_lushr {E : vm_E} {y : vm_M} {kc ks pc : Nat} {lv : vm_L} {st : List Value} {h : vm_H} {Q : Option Value → vm_H → Prop} {x : Int64} {z : Int32} (hd : decode y.2.1 pc = .ok (.lushr, 1))  (k : vm_T E y kc ks (pc + 1) lv (.long (x.toUInt64 >>> (z.toInt64.toUInt64 &&& Int64.toUInt64 63)).toInt64 :: st) h Q) : vm_T E y kc ks pc lv (.int z :: .long x :: st) h Q := by
  intro G p e R s m args below meth c H locs cells slots mc ms ls X I hL hl hc hs
  exact lv_lushr X.1 X.2.1 hd rfl (k G p e R s m args below meth c H locs cells slots mc ms ls X I hL hl hc hs)
theorem vm_r_lshl {E : vm_E} {y : vm_M} {kc ks pc : Nat} {lv : vm_L} {st : List Value} {h : vm_H} {Q : Option Value → vm_H → Prop} {x : Int64} {z : Int32} (hd : decode y.2.1 pc = .ok (.lshl, 1))  (k : vm_T E y kc ks (pc + 1) lv (.long (x <<< (z.toInt64 &&& 63)) :: st) h Q) : vm_T E y kc ks pc lv (.int z :: .long x :: st) h Q := by
  intro G p e R s m args below meth c H locs cells slots mc ms ls X I hL hl hc hs
  exact lv_lshl X.1 X.2.1 hd rfl (k G p e R s m args below meth c H locs cells slots mc ms ls X I hL hl hc hs)
theorem vm_r_lshr {E : vm_E} {y : vm_M} {kc ks pc : Nat} {lv : vm_L} {st : List Value} {h : vm_H} {Q : Option Value → vm_H → Prop} {x : Int64} {z : Int32} (hd : decode y.2.1 pc = .ok (.lshr, 1))  (k : vm_T E y kc ks (pc + 1) lv (.long (x >>> (z.toInt64 &&& 63)) :: st) h Q) : vm_T E y kc ks pc lv (.int z :: .long x :: st) h Q := by
  intro G p e R s m args below meth c H locs cells slots mc ms ls X I hL hl hc hs
  exact lv_lshr X.1 X.2.1 hd rfl (k G p e R s m args below meth c H locs cells slots mc ms ls X I hL hl hc hs)
theorem vm_r_idiv {E : vm_E} {y : vm_M} {kc ks pc : Nat} {lv : vm_L} {st : List Value} {h : vm_H} {Q : Option Value → vm_H → Prop} {x z : Int32} (hd : decode y.2.1 pc = .ok (.idiv, 1)) (hz : ¬ z = 0) (k : vm_T E y kc ks (pc + 1) lv (.int (x / z) :: st) h Q) : vm_T E y kc ks pc lv (.int z :: .int x :: st) h Q := by
  intro G p e R s m args below meth c H locs cells slots mc ms ls X I hL hl hc hs
  exact lv_idiv X.1 X.2.1 hd hz (k G p e R s m args below meth c H locs cells slots mc ms ls X I hL hl hc hs)
theorem vm_r_irem {E : vm_E} {y : vm_M} {kc ks pc : Nat} {lv : vm_L} {st : List Value} {h : vm_H} {Q : Option Value → vm_H → Prop} {x z : Int32} (hd : decode y.2.1 pc = .ok (.irem, 1)) (hz : ¬ z = 0) (k : vm_T E y kc ks (pc + 1) lv (.int (x - x / z * z) :: st) h Q) : vm_T E y kc ks pc lv (.int z :: .int x :: st) h Q := by
  intro G p e R s m args below meth c H locs cells slots mc ms ls X I hL hl hc hs
  exact lv_irem X.1 X.2.1 hd hz (k G p e R s m args below meth c H locs cells slots mc ms ls X I hL hl hc hs)
theorem vm_r_ldiv {E : vm_E} {y : vm_M} {kc ks pc : Nat} {lv : vm_L} {st : List Value} {h : vm_H} {Q : Option Value → vm_H → Prop} {x z : Int64} (hd : decode y.2.1 pc = .ok (.ldiv, 1)) (hz : ¬ z = 0) (k : vm_T E y kc ks (pc + 1) lv (.long (x / z) :: st) h Q) : vm_T E y kc ks pc lv (.long z :: .long x :: st) h Q := by
  intro G p e R s m args below meth c H locs cells slots mc ms ls X I hL hl hc hs
  exact lv_ldiv X.1 X.2.1 hd hz (k G p e R s m args below meth c H locs cells slots mc ms ls X I hL hl hc hs)
theorem vm_r_lrem {E : vm_E} {y : vm_M} {kc ks pc : Nat} {lv : vm_L} {st : List Value} {h : vm_H} {Q : Option Value → vm_H → Prop} {x z : Int64} (hd : decode y.2.1 pc = .ok (.lrem, 1)) (hz : ¬ z = 0) (k : vm_T E y kc ks (pc + 1) lv (.long (x - x / z * z) :: st) h Q) : vm_T E y kc ks pc lv (.long z :: .long x :: st) h Q := by
  intro G p e R s m args below meth c H locs cells slots mc ms ls X I hL hl hc hs
  exact lv_lrem X.1 X.2.1 hd hz (k G p e R s m args below meth c H locs cells slots mc ms ls X I hL hl hc hs)
theorem vm_r_ineg {E : vm_E} {y : vm_M} {kc ks pc : Nat} {lv : vm_L} {st : List Value} {h : vm_H} {Q : Option Value → vm_H → Prop} {x : Int32} (hd : decode y.2.1 pc = .ok (.ineg, 1))  (k : vm_T E y kc ks (pc + 1) lv (.int (-x) :: st) h Q) : vm_T E y kc ks pc lv (.int x :: st) h Q := by
  intro G p e R s m args below meth c H locs cells slots mc ms ls X I hL hl hc hs
  exact lv_ineg X.1 X.2.1 hd  (k G p e R s m args below meth c H locs cells slots mc ms ls X I hL hl hc hs)
theorem vm_r_lneg {E : vm_E} {y : vm_M} {kc ks pc : Nat} {lv : vm_L} {st : List Value} {h : vm_H} {Q : Option Value → vm_H → Prop} {x : Int64} (hd : decode y.2.1 pc = .ok (.lneg, 1))  (k : vm_T E y kc ks (pc + 1) lv (.long (-x) :: st) h Q) : vm_T E y kc ks pc lv (.long x :: st) h Q := by
  intro G p e R s m args below meth c H locs cells slots mc ms ls X I hL hl hc hs
  exact lv_lneg X.1 X.2.1 hd  (k G p e R s m args below meth c H locs cells slots mc ms ls X I hL hl hc hs)
theorem vm_r_lcmp {E : vm_E} {y : vm_M} {kc ks pc : Nat} {lv : vm_L} {st : List Value} {h : vm_H} {Q : Option Value → vm_H → Prop} {x z : Int64} (hd : decode y.2.1 pc = .ok (.lcmp, 1))  (k : vm_T E y kc ks (pc + 1) lv (.int (lg_cmp x z) :: st) h Q) : vm_T E y kc ks pc lv (.long z :: .long x :: st) h Q := by
  intro G p e R s m args below meth c H locs cells slots mc ms ls X I hL hl hc hs
  exact W.lcmp X.1 X.2.1 hd  (k G p e R s m args below meth c H locs cells slots mc ms ls X I hL hl hc hs)
theorem vm_r_i2l {E : vm_E} {y : vm_M} {kc ks pc : Nat} {lv : vm_L} {st : List Value} {h : vm_H} {Q : Option Value → vm_H → Prop} {x : Int32} (hd : decode y.2.1 pc = .ok (.i2l, 1))  (k : vm_T E y kc ks (pc + 1) lv (.long x.toInt64 :: st) h Q) : vm_T E y kc ks pc lv (.int x :: st) h Q := by
  intro G p e R s m args below meth c H locs cells slots mc ms ls X I hL hl hc hs
  exact lv_i2l X.1 X.2.1 hd rfl (k G p e R s m args below meth c H locs cells slots mc ms ls X I hL hl hc hs)
theorem vm_r_l2i {E : vm_E} {y : vm_M} {kc ks pc : Nat} {lv : vm_L} {st : List Value} {h : vm_H} {Q : Option Value → vm_H → Prop} {x : Int64} (hd : decode y.2.1 pc = .ok (.l2i, 1))  (k : vm_T E y kc ks (pc + 1) lv (.int x.toInt32 :: st) h Q) : vm_T E y kc ks pc lv (.long x :: st) h Q := by
  intro G p e R s m args below meth c H locs cells slots mc ms ls X I hL hl hc hs
  exact lv_l2i X.1 X.2.1 hd rfl (k G p e R s m args below meth c H locs cells slots mc ms ls X I hL hl hc hs)
theorem vm_r_i2b {E : vm_E} {y : vm_M} {kc ks pc : Nat} {lv : vm_L} {st : List Value} {h : vm_H} {Q : Option Value → vm_H → Prop} {x : Int32} (hd : decode y.2.1 pc = .ok (.i2b, 1))  (k : vm_T E y kc ks (pc + 1) lv (.int x.toInt8.toInt32 :: st) h Q) : vm_T E y kc ks pc lv (.int x :: st) h Q := by
  intro G p e R s m args below meth c H locs cells slots mc ms ls X I hL hl hc hs
  exact lv_i2b X.1 X.2.1 hd rfl (k G p e R s m args below meth c H locs cells slots mc ms ls X I hL hl hc hs)
theorem vm_r_i2c {E : vm_E} {y : vm_M} {kc ks pc : Nat} {lv : vm_L} {st : List Value} {h : vm_H} {Q : Option Value → vm_H → Prop} {x : Int32} (hd : decode y.2.1 pc = .ok (.i2c, 1))  (k : vm_T E y kc ks (pc + 1) lv (.int (x.toUInt32 % 65536).toInt32 :: st) h Q) : vm_T E y kc ks pc lv (.int x :: st) h Q := by
  intro G p e R s m args below meth c H locs cells slots mc ms ls X I hL hl hc hs
  exact lv_i2c X.1 X.2.1 hd rfl (k G p e R s m args below meth c H locs cells slots mc ms ls X I hL hl hc hs)
theorem vm_r_dup {E : vm_E} {y : vm_M} {kc ks pc : Nat} {lv : vm_L} {st : List Value} {h : vm_H} {Q : Option Value → vm_H → Prop} {v : Value} (hd : decode y.2.1 pc = .ok (.dup, 1)) (hv : v.category = 1) (k : vm_T E y kc ks (pc + 1) lv (v :: v :: st) h Q) : vm_T E y kc ks pc lv (v :: st) h Q := by
  intro G p e R s m args below meth c H locs cells slots mc ms ls X I hL hl hc hs
  exact lv_dup X.1 X.2.1 hd ((vm_cat G v).trans hv) (k G p e R s m args below meth c H locs cells slots mc ms ls X I hL hl hc hs)
theorem vm_r_pop {E : vm_E} {y : vm_M} {kc ks pc : Nat} {lv : vm_L} {st : List Value} {h : vm_H} {Q : Option Value → vm_H → Prop} {v : Value} (hd : decode y.2.1 pc = .ok (.pop, 1)) (hv : v.category = 1) (k : vm_T E y kc ks (pc + 1) lv (st) h Q) : vm_T E y kc ks pc lv (v :: st) h Q := by
  intro G p e R s m args below meth c H locs cells slots mc ms ls X I hL hl hc hs
  exact lv_pop X.1 X.2.1 hd ((vm_cat G v).trans hv) (k G p e R s m args below meth c H locs cells slots mc ms ls X I hL hl hc hs)
theorem vm_r_dup2 {E : vm_E} {y : vm_M} {kc ks pc : Nat} {lv : vm_L} {st : List Value} {h : vm_H} {Q : Option Value → vm_H → Prop} {v w : Value} (hd : decode y.2.1 pc = .ok (.dup2, 1)) (hv : v.category = 1) (hw : w.category = 1) (k : vm_T E y kc ks (pc + 1) lv (v :: w :: v :: w :: st) h Q) : vm_T E y kc ks pc lv (v :: w :: st) h Q := by
  intro G p e R s m args below meth c H locs cells slots mc ms ls X I hL hl hc hs
  exact lv_dup2_11 X.1 X.2.1 hd ((vm_cat G v).trans hv) ((vm_cat G w).trans hw) (k G p e R s m args below meth c H locs cells slots mc ms ls X I hL hl hc hs)
theorem vm_r_dup2L {E : vm_E} {y : vm_M} {kc ks pc : Nat} {lv : vm_L} {st : List Value} {h : vm_H} {Q : Option Value → vm_H → Prop} {v : Value} (hd : decode y.2.1 pc = .ok (.dup2, 1)) (hv : v.category = 2) (k : vm_T E y kc ks (pc + 1) lv (v :: v :: st) h Q) : vm_T E y kc ks pc lv (v :: st) h Q := by
  intro G p e R s m args below meth c H locs cells slots mc ms ls X I hL hl hc hs
  exact lv_dup2_2 X.1 X.2.1 hd ((vm_cat G v).trans hv) (k G p e R s m args below meth c H locs cells slots mc ms ls X I hL hl hc hs)
theorem vm_r_iload_n {E : vm_E} {y : vm_M} {kc ks pc : Nat} {lv : vm_L} {st : List Value} {h : vm_H} {Q : Option Value → vm_H → Prop} {n : Fin 4} {x : Int32} (hd : decode y.2.1 pc = .ok (.iload_n n, 1)) (hx : vm_ld lv n.val = some (.int x)) (k : vm_T E y kc ks (pc + 1) lv (.int x :: st) h Q) : vm_T E y kc ks pc lv (st) h Q := by
  intro G p e R s m args below meth c H locs cells slots mc ms ls X I hL hl hc hs
  exact lv_iload_n X.1 X.2.1 hd rfl (vm_ld_at hl hx) (k G p e R s m args below meth c H locs cells slots mc ms ls X I hL hl hc hs)
theorem vm_r_iload {E : vm_E} {y : vm_M} {kc ks pc : Nat} {lv : vm_L} {st : List Value} {h : vm_H} {Q : Option Value → vm_H → Prop} {n : Nat} {x : Int32} (hd : decode y.2.1 pc = .ok (.iload n, 2)) (hx : vm_ld lv n = some (.int x)) (k : vm_T E y kc ks (pc + 2) lv (.int x :: st) h Q) : vm_T E y kc ks pc lv (st) h Q := by
  intro G p e R s m args below meth c H locs cells slots mc ms ls X I hL hl hc hs
  exact lv_iload X.1 X.2.1 hd (vm_ld_at hl hx) (k G p e R s m args below meth c H locs cells slots mc ms ls X I hL hl hc hs)
theorem vm_r_lload_n {E : vm_E} {y : vm_M} {kc ks pc : Nat} {lv : vm_L} {st : List Value} {h : vm_H} {Q : Option Value → vm_H → Prop} {n : Fin 4} {x : Int64} (hd : decode y.2.1 pc = .ok (.lload_n n, 1)) (hx : vm_ld lv n.val = some (.long x)) (k : vm_T E y kc ks (pc + 1) lv (.long x :: st) h Q) : vm_T E y kc ks pc lv (st) h Q := by
  intro G p e R s m args below meth c H locs cells slots mc ms ls X I hL hl hc hs
  exact lv_lload_n X.1 X.2.1 hd rfl (vm_ld_at hl hx) (k G p e R s m args below meth c H locs cells slots mc ms ls X I hL hl hc hs)
theorem vm_r_lload {E : vm_E} {y : vm_M} {kc ks pc : Nat} {lv : vm_L} {st : List Value} {h : vm_H} {Q : Option Value → vm_H → Prop} {n : Nat} {x : Int64} (hd : decode y.2.1 pc = .ok (.lload n, 2)) (hx : vm_ld lv n = some (.long x)) (k : vm_T E y kc ks (pc + 2) lv (.long x :: st) h Q) : vm_T E y kc ks pc lv (st) h Q := by
  intro G p e R s m args below meth c H locs cells slots mc ms ls X I hL hl hc hs
  exact lv_lload X.1 X.2.1 hd (vm_ld_at hl hx) (k G p e R s m args below meth c H locs cells slots mc ms ls X I hL hl hc hs)
theorem vm_r_aload_n {E : vm_E} {y : vm_M} {kc ks pc : Nat} {lv : vm_L} {st : List Value} {h : vm_H} {Q : Option Value → vm_H → Prop} {n : Fin 4} {x : Nat} (hd : decode y.2.1 pc = .ok (.aload_n n, 1)) (hx : vm_ld lv n.val = some (.ref x)) (k : vm_T E y kc ks (pc + 1) lv (.ref x :: st) h Q) : vm_T E y kc ks pc lv (st) h Q := by
  intro G p e R s m args below meth c H locs cells slots mc ms ls X I hL hl hc hs
  exact lv_aload_n X.1 X.2.1 hd rfl (vm_ld_at hl hx) (k G p e R s m args below meth c H locs cells slots mc ms ls X I hL hl hc hs)
theorem vm_r_aload {E : vm_E} {y : vm_M} {kc ks pc : Nat} {lv : vm_L} {st : List Value} {h : vm_H} {Q : Option Value → vm_H → Prop} {n : Nat} {x : Nat} (hd : decode y.2.1 pc = .ok (.aload n, 2)) (hx : vm_ld lv n = some (.ref x)) (k : vm_T E y kc ks (pc + 2) lv (.ref x :: st) h Q) : vm_T E y kc ks pc lv (st) h Q := by
  intro G p e R s m args below meth c H locs cells slots mc ms ls X I hL hl hc hs
  exact lv_aload X.1 X.2.1 hd (vm_ld_at hl hx) (k G p e R s m args below meth c H locs cells slots mc ms ls X I hL hl hc hs)
theorem vm_r_aload_nN {E : vm_E} {y : vm_M} {kc ks pc : Nat} {lv : vm_L} {st : List Value} {h : vm_H} {Q : Option Value → vm_H → Prop} {n : Fin 4}  (hd : decode y.2.1 pc = .ok (.aload_n n, 1)) (hx : vm_ld lv n.val = some (.null)) (k : vm_T E y kc ks (pc + 1) lv (.null :: st) h Q) : vm_T E y kc ks pc lv (st) h Q := by
  intro G p e R s m args below meth c H locs cells slots mc ms ls X I hL hl hc hs
  exact lv_aload_nN X.1 X.2.1 hd rfl (vm_ld_at hl hx) (k G p e R s m args below meth c H locs cells slots mc ms ls X I hL hl hc hs)
theorem vm_r_aloadN {E : vm_E} {y : vm_M} {kc ks pc : Nat} {lv : vm_L} {st : List Value} {h : vm_H} {Q : Option Value → vm_H → Prop} {n : Nat}  (hd : decode y.2.1 pc = .ok (.aload n, 2)) (hx : vm_ld lv n = some (.null)) (k : vm_T E y kc ks (pc + 2) lv (.null :: st) h Q) : vm_T E y kc ks pc lv (st) h Q := by
  intro G p e R s m args below meth c H locs cells slots mc ms ls X I hL hl hc hs
  exact lv_aloadN X.1 X.2.1 hd (vm_ld_at hl hx) (k G p e R s m args below meth c H locs cells slots mc ms ls X I hL hl hc hs)
theorem vm_r_istore_n {E : vm_E} {y : vm_M} {kc ks pc : Nat} {lv : vm_L} {st : List Value} {h : vm_H} {Q : Option Value → vm_H → Prop} {n : Fin 4} {x : Int32} (hd : decode y.2.1 pc = .ok (.istore_n n, 1)) (hn : n.val < y.2.2.1) (k : vm_T E y kc ks (pc + 1) (vm_st1 lv n.val (.int x)) st h Q) : vm_T E y kc ks pc lv (.int x :: st) h Q := by
  intro G p e R s m args below meth c H locs cells slots mc ms ls X I hL hl hc hs
  exact lv_istore_n X.1 X.2.1 hd rfl hl hn rfl (fun ls' hl' => k G p e R s m args below meth c H locs cells slots mc ms ls' X I hL (vm_st1_has hl') hc hs)
theorem vm_r_istore {E : vm_E} {y : vm_M} {kc ks pc : Nat} {lv : vm_L} {st : List Value} {h : vm_H} {Q : Option Value → vm_H → Prop} {n : Nat} {x : Int32} (hd : decode y.2.1 pc = .ok (.istore n, 2)) (hn : n < y.2.2.1) (k : vm_T E y kc ks (pc + 2) (vm_st1 lv n (.int x)) st h Q) : vm_T E y kc ks pc lv (.int x :: st) h Q := by
  intro G p e R s m args below meth c H locs cells slots mc ms ls X I hL hl hc hs
  exact lv_istore X.1 X.2.1 hd hl hn rfl (fun ls' hl' => k G p e R s m args below meth c H locs cells slots mc ms ls' X I hL (vm_st1_has hl') hc hs)
theorem vm_r_lstore_n {E : vm_E} {y : vm_M} {kc ks pc : Nat} {lv : vm_L} {st : List Value} {h : vm_H} {Q : Option Value → vm_H → Prop} {n : Fin 4} {x : Int64} (hd : decode y.2.1 pc = .ok (.lstore_n n, 1)) (hn : n.val + 1 < y.2.2.1) (k : vm_T E y kc ks (pc + 1) (vm_st2 lv n.val (.long x)) st h Q) : vm_T E y kc ks pc lv (.long x :: st) h Q := by
  intro G p e R s m args below meth c H locs cells slots mc ms ls X I hL hl hc hs
  exact lv_lstore_n X.1 X.2.1 hd rfl hl hn rfl (fun ls' hl' => k G p e R s m args below meth c H locs cells slots mc ms ls' X I hL (vm_st2_has hl') hc hs)
theorem vm_r_lstore {E : vm_E} {y : vm_M} {kc ks pc : Nat} {lv : vm_L} {st : List Value} {h : vm_H} {Q : Option Value → vm_H → Prop} {n : Nat} {x : Int64} (hd : decode y.2.1 pc = .ok (.lstore n, 2)) (hn : n + 1 < y.2.2.1) (k : vm_T E y kc ks (pc + 2) (vm_st2 lv n (.long x)) st h Q) : vm_T E y kc ks pc lv (.long x :: st) h Q := by
  intro G p e R s m args below meth c H locs cells slots mc ms ls X I hL hl hc hs
  exact lv_lstore X.1 X.2.1 hd hl hn rfl (fun ls' hl' => k G p e R s m args below meth c H locs cells slots mc ms ls' X I hL (vm_st2_has hl') hc hs)
theorem vm_r_astore_n {E : vm_E} {y : vm_M} {kc ks pc : Nat} {lv : vm_L} {st : List Value} {h : vm_H} {Q : Option Value → vm_H → Prop} {n : Fin 4} {x : Nat} (hd : decode y.2.1 pc = .ok (.astore_n n, 1)) (hn : n.val < y.2.2.1) (k : vm_T E y kc ks (pc + 1) (vm_st1 lv n.val (.ref x)) st h Q) : vm_T E y kc ks pc lv (.ref x :: st) h Q := by
  intro G p e R s m args below meth c H locs cells slots mc ms ls X I hL hl hc hs
  exact lv_astore_n X.1 X.2.1 hd rfl hl hn rfl (fun ls' hl' => k G p e R s m args below meth c H locs cells slots mc ms ls' X I hL (vm_st1_has hl') hc hs)
theorem vm_r_astore {E : vm_E} {y : vm_M} {kc ks pc : Nat} {lv : vm_L} {st : List Value} {h : vm_H} {Q : Option Value → vm_H → Prop} {n : Nat} {x : Nat} (hd : decode y.2.1 pc = .ok (.astore n, 2)) (hn : n < y.2.2.1) (k : vm_T E y kc ks (pc + 2) (vm_st1 lv n (.ref x)) st h Q) : vm_T E y kc ks pc lv (.ref x :: st) h Q := by
  intro G p e R s m args below meth c H locs cells slots mc ms ls X I hL hl hc hs
  exact lv_astore X.1 X.2.1 hd hl hn rfl (fun ls' hl' => k G p e R s m args below meth c H locs cells slots mc ms ls' X I hL (vm_st1_has hl') hc hs)
theorem vm_r_astore_nN {E : vm_E} {y : vm_M} {kc ks pc : Nat} {lv : vm_L} {st : List Value} {h : vm_H} {Q : Option Value → vm_H → Prop} {n : Fin 4}  (hd : decode y.2.1 pc = .ok (.astore_n n, 1)) (hn : n.val < y.2.2.1) (k : vm_T E y kc ks (pc + 1) (vm_st1 lv n.val (.null)) st h Q) : vm_T E y kc ks pc lv (.null :: st) h Q := by
  intro G p e R s m args below meth c H locs cells slots mc ms ls X I hL hl hc hs
  exact lv_astore_nN X.1 X.2.1 hd rfl hl hn rfl (fun ls' hl' => k G p e R s m args below meth c H locs cells slots mc ms ls' X I hL (vm_st1_has hl') hc hs)
theorem vm_r_astoreN {E : vm_E} {y : vm_M} {kc ks pc : Nat} {lv : vm_L} {st : List Value} {h : vm_H} {Q : Option Value → vm_H → Prop} {n : Nat}  (hd : decode y.2.1 pc = .ok (.astore n, 2)) (hn : n < y.2.2.1) (k : vm_T E y kc ks (pc + 2) (vm_st1 lv n (.null)) st h Q) : vm_T E y kc ks pc lv (.null :: st) h Q := by
  intro G p e R s m args below meth c H locs cells slots mc ms ls X I hL hl hc hs
  exact lv_astoreN X.1 X.2.1 hd hl hn rfl (fun ls' hl' => k G p e R s m args below meth c H locs cells slots mc ms ls' X I hL (vm_st1_has hl') hc hs)
theorem vm_r_iinc {E : vm_E} {y : vm_M} {kc ks pc : Nat} {lv : vm_L} {st : List Value} {h : vm_H} {Q : Option Value → vm_H → Prop} {n : Nat} {z : Int} {x : Int32} (hd : decode y.2.1 pc = .ok (.iinc n z, 3)) (hn : n < y.2.2.1) (hx : vm_ld lv n = some (.int x)) (k : vm_T E y kc ks (pc + 3) (vm_st1 lv n (.int (x + Int32.ofInt z))) st h Q) : vm_T E y kc ks pc lv st h Q := by
  intro G p e R s m args below meth c H locs cells slots mc ms ls X I hL hl hc hs
  obtain ⟨j, hj⟩ := vm_ld_ix G hx
  exact lv_iinc X.1 X.2.1 hd hl hj rfl hn rfl (fun ls' hl' => k G p e R s m args below meth c H locs cells slots mc ms ls' X I hL (vm_st1_has hl') hc hs)
theorem vm_r_iincW {E : vm_E} {y : vm_M} {kc ks pc : Nat} {lv : vm_L} {st : List Value} {h : vm_H} {Q : Option Value → vm_H → Prop} {n : Nat} {z : Int} {x : Int32} (hd : decode y.2.1 pc = .ok (.iinc n z, 6)) (hn : n < y.2.2.1) (hx : vm_ld lv n = some (.int x)) (k : vm_T E y kc ks (pc + 6) (vm_st1 lv n (.int (x + Int32.ofInt z))) st h Q) : vm_T E y kc ks pc lv st h Q := by
  intro G p e R s m args below meth c H locs cells slots mc ms ls X I hL hl hc hs
  obtain ⟨j, hj⟩ := vm_ld_ix G hx
  exact lv_iincW X.1 X.2.1 hd hl hj rfl hn rfl (fun ls' hl' => k G p e R s m args below meth c H locs cells slots mc ms ls' X I hL (vm_st1_has hl') hc hs)
theorem vm_r_if_eq {E : vm_E} {y : vm_M} {kc ks pc : Nat} {lv : vm_L} {st : List Value} {h : vm_H} {Q : Option Value → vm_H → Prop} {x : Int32} {off : Int} {tgt : Nat} (hd : decode y.2.1 pc = .ok (.ifCond .eq off, 3)) (ht : (pc : Int) + off = (tgt : Int)) (kt : x = 0 → vm_T E y kc ks tgt lv st h Q) (kf : ¬ x = 0 → vm_T E y kc ks (pc + 3) lv st h Q) : vm_T E y kc ks pc lv (.int x :: st) h Q := by
  intro G p e R s m args below meth c H locs cells slots mc ms ls X I hL hl hc hs
  exact lv_if_eq X.1 X.2.1 hd ht (fun q => kt q G p e R s m args below meth c H locs cells slots mc ms ls X I hL hl hc hs) (fun q => kf q G p e R s m args below meth c H locs cells slots mc ms ls X I hL hl hc hs)
theorem vm_r_icmp_eq {E : vm_E} {y : vm_M} {kc ks pc : Nat} {lv : vm_L} {st : List Value} {h : vm_H} {Q : Option Value → vm_H → Prop} {x z : Int32} {off : Int} {tgt : Nat} (hd : decode y.2.1 pc = .ok (.if_icmp .eq off, 3)) (ht : (pc : Int) + off = (tgt : Int)) (kt : x = z → vm_T E y kc ks tgt lv st h Q) (kf : ¬ x = z → vm_T E y kc ks (pc + 3) lv st h Q) : vm_T E y kc ks pc lv (.int z :: .int x :: st) h Q := by
  intro G p e R s m args below meth c H locs cells slots mc ms ls X I hL hl hc hs
  exact lv_icmp_eq X.1 X.2.1 hd ht (fun q => kt q G p e R s m args below meth c H locs cells slots mc ms ls X I hL hl hc hs) (fun q => kf q G p e R s m args below meth c H locs cells slots mc ms ls X I hL hl hc hs)
theorem vm_r_if_ne {E : vm_E} {y : vm_M} {kc ks pc : Nat} {lv : vm_L} {st : List Value} {h : vm_H} {Q : Option Value → vm_H → Prop} {x : Int32} {off : Int} {tgt : Nat} (hd : decode y.2.1 pc = .ok (.ifCond .ne off, 3)) (ht : (pc : Int) + off = (tgt : Int)) (kt : ¬ x = 0 → vm_T E y kc ks tgt lv st h Q) (kf : x = 0 → vm_T E y kc ks (pc + 3) lv st h Q) : vm_T E y kc ks pc lv (.int x :: st) h Q := by
  intro G p e R s m args below meth c H locs cells slots mc ms ls X I hL hl hc hs
  exact lv_if_ne X.1 X.2.1 hd ht (fun q => kt q G p e R s m args below meth c H locs cells slots mc ms ls X I hL hl hc hs) (fun q => kf q G p e R s m args below meth c H locs cells slots mc ms ls X I hL hl hc hs)
theorem vm_r_icmp_ne {E : vm_E} {y : vm_M} {kc ks pc : Nat} {lv : vm_L} {st : List Value} {h : vm_H} {Q : Option Value → vm_H → Prop} {x z : Int32} {off : Int} {tgt : Nat} (hd : decode y.2.1 pc = .ok (.if_icmp .ne off, 3)) (ht : (pc : Int) + off = (tgt : Int)) (kt : ¬ x = z → vm_T E y kc ks tgt lv st h Q) (kf : x = z → vm_T E y kc ks (pc + 3) lv st h Q) : vm_T E y kc ks pc lv (.int z :: .int x :: st) h Q := by
  intro G p e R s m args below meth c H locs cells slots mc ms ls X I hL hl hc hs
  exact lv_icmp_ne X.1 X.2.1 hd ht (fun q => kt q G p e R s m args below meth c H locs cells slots mc ms ls X I hL hl hc hs) (fun q => kf q G p e R s m args below meth c H locs cells slots mc ms ls X I hL hl hc hs)
theorem vm_r_if_lt {E : vm_E} {y : vm_M} {kc ks pc : Nat} {lv : vm_L} {st : List Value} {h : vm_H} {Q : Option Value → vm_H → Prop} {x : Int32} {off : Int} {tgt : Nat} (hd : decode y.2.1 pc = .ok (.ifCond .lt off, 3)) (ht : (pc : Int) + off = (tgt : Int)) (kt : x < 0 → vm_T E y kc ks tgt lv st h Q) (kf : ¬ x < 0 → vm_T E y kc ks (pc + 3) lv st h Q) : vm_T E y kc ks pc lv (.int x :: st) h Q := by
  intro G p e R s m args below meth c H locs cells slots mc ms ls X I hL hl hc hs
  exact lv_if_lt X.1 X.2.1 hd ht (fun q => kt q G p e R s m args below meth c H locs cells slots mc ms ls X I hL hl hc hs) (fun q => kf q G p e R s m args below meth c H locs cells slots mc ms ls X I hL hl hc hs)
theorem vm_r_icmp_lt {E : vm_E} {y : vm_M} {kc ks pc : Nat} {lv : vm_L} {st : List Value} {h : vm_H} {Q : Option Value → vm_H → Prop} {x z : Int32} {off : Int} {tgt : Nat} (hd : decode y.2.1 pc = .ok (.if_icmp .lt off, 3)) (ht : (pc : Int) + off = (tgt : Int)) (kt : x < z → vm_T E y kc ks tgt lv st h Q) (kf : ¬ x < z → vm_T E y kc ks (pc + 3) lv st h Q) : vm_T E y kc ks pc lv (.int z :: .int x :: st) h Q := by
  intro G p e R s m args below meth c H locs cells slots mc ms ls X I hL hl hc hs
  exact lv_icmp_lt X.1 X.2.1 hd ht (fun q => kt q G p e R s m args below meth c H locs cells slots mc ms ls X I hL hl hc hs) (fun q => kf q G p e R s m args below meth c H locs cells slots mc ms ls X I hL hl hc hs)
theorem vm_r_if_ge {E : vm_E} {y : vm_M} {kc ks pc : Nat} {lv : vm_L} {st : List Value} {h : vm_H} {Q : Option Value → vm_H → Prop} {x : Int32} {off : Int} {tgt : Nat} (hd : decode y.2.1 pc = .ok (.ifCond .ge off, 3)) (ht : (pc : Int) + off = (tgt : Int)) (kt : 0 ≤ x → vm_T E y kc ks tgt lv st h Q) (kf : ¬ 0 ≤ x → vm_T E y kc ks (pc + 3) lv st h Q) : vm_T E y kc ks pc lv (.int x :: st) h Q := by
  intro G p e R s m args below meth c H locs cells slots mc ms ls X I hL hl hc hs
  exact lv_if_ge X.1 X.2.1 hd ht (fun q => kt q G p e R s m args below meth c H locs cells slots mc ms ls X I hL hl hc hs) (fun q => kf q G p e R s m args below meth c H locs cells slots mc ms ls X I hL hl hc hs)
theorem vm_r_icmp_ge {E : vm_E} {y : vm_M} {kc ks pc : Nat} {lv : vm_L} {st : List Value} {h : vm_H} {Q : Option Value → vm_H → Prop} {x z : Int32} {off : Int} {tgt : Nat} (hd : decode y.2.1 pc = .ok (.if_icmp .ge off, 3)) (ht : (pc : Int) + off = (tgt : Int)) (kt : z ≤ x → vm_T E y kc ks tgt lv st h Q) (kf : ¬ z ≤ x → vm_T E y kc ks (pc + 3) lv st h Q) : vm_T E y kc ks pc lv (.int z :: .int x :: st) h Q := by
  intro G p e R s m args below meth c H locs cells slots mc ms ls X I hL hl hc hs
  exact lv_icmp_ge X.1 X.2.1 hd ht (fun q => kt q G p e R s m args below meth c H locs cells slots mc ms ls X I hL hl hc hs) (fun q => kf q G p e R s m args below meth c H locs cells slots mc ms ls X I hL hl hc hs)
theorem vm_r_if_gt {E : vm_E} {y : vm_M} {kc ks pc : Nat} {lv : vm_L} {st : List Value} {h : vm_H} {Q : Option Value → vm_H → Prop} {x : Int32} {off : Int} {tgt : Nat} (hd : decode y.2.1 pc = .ok (.ifCond .gt off, 3)) (ht : (pc : Int) + off = (tgt : Int)) (kt : 0 < x → vm_T E y kc ks tgt lv st h Q) (kf : ¬ 0 < x → vm_T E y kc ks (pc + 3) lv st h Q) : vm_T E y kc ks pc lv (.int x :: st) h Q := by
  intro G p e R s m args below meth c H locs cells slots mc ms ls X I hL hl hc hs
  exact lv_if_gt X.1 X.2.1 hd ht (fun q => kt q G p e R s m args below meth c H locs cells slots mc ms ls X I hL hl hc hs) (fun q => kf q G p e R s m args below meth c H locs cells slots mc ms ls X I hL hl hc hs)
theorem vm_r_icmp_gt {E : vm_E} {y : vm_M} {kc ks pc : Nat} {lv : vm_L} {st : List Value} {h : vm_H} {Q : Option Value → vm_H → Prop} {x z : Int32} {off : Int} {tgt : Nat} (hd : decode y.2.1 pc = .ok (.if_icmp .gt off, 3)) (ht : (pc : Int) + off = (tgt : Int)) (kt : z < x → vm_T E y kc ks tgt lv st h Q) (kf : ¬ z < x → vm_T E y kc ks (pc + 3) lv st h Q) : vm_T E y kc ks pc lv (.int z :: .int x :: st) h Q := by
  intro G p e R s m args below meth c H locs cells slots mc ms ls X I hL hl hc hs
  exact lv_icmp_gt X.1 X.2.1 hd ht (fun q => kt q G p e R s m args below meth c H locs cells slots mc ms ls X I hL hl hc hs) (fun q => kf q G p e R s m args below meth c H locs cells slots mc ms ls X I hL hl hc hs)
theorem vm_r_if_le {E : vm_E} {y : vm_M} {kc ks pc : Nat} {lv : vm_L} {st : List Value} {h : vm_H} {Q : Option Value → vm_H → Prop} {x : Int32} {off : Int} {tgt : Nat} (hd : decode y.2.1 pc = .ok (.ifCond .le off, 3)) (ht : (pc : Int) + off = (tgt : Int)) (kt : x ≤ 0 → vm_T E y kc ks tgt lv st h Q) (kf : ¬ x ≤ 0 → vm_T E y kc ks (pc + 3) lv st h Q) : vm_T E y kc ks pc lv (.int x :: st) h Q := by
  intro G p e R s m args below meth c H locs cells slots mc ms ls X I hL hl hc hs
  exact lv_if_le X.1 X.2.1 hd ht (fun q => kt q G p e R s m args below meth c H locs cells slots mc ms ls X I hL hl hc hs) (fun q => kf q G p e R s m args below meth c H locs cells slots mc ms ls X I hL hl hc hs)
theorem vm_r_icmp_le {E : vm_E} {y : vm_M} {kc ks pc : Nat} {lv : vm_L} {st : List Value} {h : vm_H} {Q : Option Value → vm_H → Prop} {x z : Int32} {off : Int} {tgt : Nat} (hd : decode y.2.1 pc = .ok (.if_icmp .le off, 3)) (ht : (pc : Int) + off = (tgt : Int)) (kt : x ≤ z → vm_T E y kc ks tgt lv st h Q) (kf : ¬ x ≤ z → vm_T E y kc ks (pc + 3) lv st h Q) : vm_T E y kc ks pc lv (.int z :: .int x :: st) h Q := by
  intro G p e R s m args below meth c H locs cells slots mc ms ls X I hL hl hc hs
  exact lv_icmp_le X.1 X.2.1 hd ht (fun q => kt q G p e R s m args below meth c H locs cells slots mc ms ls X I hL hl hc hs) (fun q => kf q G p e R s m args below meth c H locs cells slots mc ms ls X I hL hl hc hs)
theorem vm_r_goto {E : vm_E} {y : vm_M} {kc ks pc : Nat} {lv : vm_L} {st : List Value} {h : vm_H} {Q : Option Value → vm_H → Prop} {off : Int} {tgt : Nat} (hd : decode y.2.1 pc = .ok (.goto off, 3)) (ht : (pc : Int) + off = (tgt : Int)) (k : vm_T E y kc ks tgt lv st h Q) : vm_T E y kc ks pc lv st h Q := by
  intro G p e R s m args below meth c H locs cells slots mc ms ls X I hL hl hc hs
  exact lv_goto X.1 X.2.1 hd ht (k G p e R s m args below meth c H locs cells slots mc ms ls X I hL hl hc hs)
theorem vm_r_ifnull {E : vm_E} {y : vm_M} {kc ks pc : Nat} {lv : vm_L} {st : List Value} {h : vm_H} {Q : Option Value → vm_H → Prop} {x : Nat} {off : Int} (hd : decode y.2.1 pc = .ok (.ifnull off, 3)) (k : vm_T E y kc ks (pc + 3) lv st h Q) : vm_T E y kc ks pc lv (.ref x :: st) h Q := by
  intro G p e R s m args below meth c H locs cells slots mc ms ls X I hL hl hc hs
  exact lv_ifnull X.1 X.2.1 hd (k G p e R s m args below meth c H locs cells slots mc ms ls X I hL hl hc hs)
theorem vm_r_ifnullN {E : vm_E} {y : vm_M} {kc ks pc : Nat} {lv : vm_L} {st : List Value} {h : vm_H} {Q : Option Value → vm_H → Prop} {off : Int} {tgt : Nat} (hd : decode y.2.1 pc = .ok (.ifnull off, 3)) (ht : (pc : Int) + off = (tgt : Int)) (k : vm_T E y kc ks tgt lv st h Q) : vm_T E y kc ks pc lv (.null :: st) h Q := by
  intro G p e R s m args below meth c H locs cells slots mc ms ls X I hL hl hc hs
  exact lv_ifnullN X.1 X.2.1 hd ht (k G p e R s m args below meth c H locs cells slots mc ms ls X I hL hl hc hs)
theorem vm_r_ifnonnull {E : vm_E} {y : vm_M} {kc ks pc : Nat} {lv : vm_L} {st : List Value} {h : vm_H} {Q : Option Value → vm_H → Prop} {x : Nat} {off : Int} {tgt : Nat} (hd : decode y.2.1 pc = .ok (.ifnonnull off, 3)) (ht : (pc : Int) + off = (tgt : Int)) (k : vm_T E y kc ks tgt lv st h Q) : vm_T E y kc ks pc lv (.ref x :: st) h Q := by
  intro G p e R s m args below meth c H locs cells slots mc ms ls X I hL hl hc hs
  exact lv_ifnonnull X.1 X.2.1 hd ht (k G p e R s m args below meth c H locs cells slots mc ms ls X I hL hl hc hs)
theorem vm_r_ifnonnullN {E : vm_E} {y : vm_M} {kc ks pc : Nat} {lv : vm_L} {st : List Value} {h : vm_H} {Q : Option Value → vm_H → Prop} {off : Int} (hd : decode y.2.1 pc = .ok (.ifnonnull off, 3)) (k : vm_T E y kc ks (pc + 3) lv st h Q) : vm_T E y kc ks pc lv (.null :: st) h Q := by
  intro G p e R s m args below meth c H locs cells slots mc ms ls X I hL hl hc hs
  exact lv_ifnonnullN X.1 X.2.1 hd (k G p e R s m args below meth c H locs cells slots mc ms ls X I hL hl hc hs)
theorem vm_r_swOut {E : vm_E} {y : vm_M} {kc ks pc : Nat} {lv : vm_L} {st : List Value} {h : vm_H} {Q : Option Value → vm_H → Prop} {x : Int32} {dflt lo hi : Int} {offs : Array Int} {len tgt : Nat} (hd : decode y.2.1 pc = .ok (.tableswitch dflt lo hi offs, len)) (hx : x.toInt < lo ∨ hi < x.toInt) (ht : (pc : Int) + dflt = (tgt : Int)) (k : vm_T E y kc ks tgt lv st h Q) : vm_T E y kc ks pc lv (.int x :: st) h Q := by
  intro G p e R s m args below meth c H locs cells slots mc ms ls X I hL hl hc hs
  exact lv_tableOut X.1 X.2.1 hd hx ht (k G p e R s m args below meth c H locs cells slots mc ms ls X I hL hl hc hs)
theorem vm_r_swIn {E : vm_E} {y : vm_M} {kc ks pc : Nat} {lv : vm_L} {st : List Value} {h : vm_H} {Q : Option Value → vm_H → Prop} {x : Int32} {dflt lo hi off : Int} {offs : Array Int} {len tgt : Nat} (hd : decode y.2.1 pc = .ok (.tableswitch dflt lo hi offs, len)) (h1 : ¬ x.toInt < lo) (h2 : ¬ hi < x.toInt) (ho : offs[(x.toInt - lo).toNat]? = some off) (ht : (pc : Int) + off = (tgt : Int)) (k : vm_T E y kc ks tgt lv st h Q) : vm_T E y kc ks pc lv (.int x :: st) h Q := by
  intro G p e R s m args below meth c H locs cells slots mc ms ls X I hL hl hc hs
  exact lv_tableIn X.1 X.2.1 hd h1 h2 ho ht (k G p e R s m args below meth c H locs cells slots mc ms ls X I hL hl hc hs)
theorem vm_r_ldc {E : vm_E} {y : vm_M} {kc ks pc : Nat} {lv : vm_L} {st : List Value} {h : vm_H} {Q : Option Value → vm_H → Prop} {n : Nat} {v : Int32} (hd : decode y.2.1 pc = .ok (.ldc n, 2)) (hw : Jvm.Cond.constant y.1.cls n v ∈ E.2.2.2.1) (k : vm_T E y kc ks (pc + 2) lv (.int v :: st) h Q) : vm_T E y kc ks pc lv st h Q := by
  intro G p e R s m args below meth c H locs cells slots mc ms ls X I hL hl hc hs
  exact lv_ldc X.1 X.2.1 X.2.2.2.2.2.2.1 (X.2.2.2.2.2.2.2.1 _ hw) hd (k G p e R s m args below meth c H locs cells slots mc ms ls X I hL hl hc hs)
theorem vm_r_ldcw {E : vm_E} {y : vm_M} {kc ks pc : Nat} {lv : vm_L} {st : List Value} {h : vm_H} {Q : Option Value → vm_H → Prop} {n : Nat} {v : Int32} (hd : decode y.2.1 pc = .ok (.ldc_w n, 3)) (hw : Jvm.Cond.constant y.1.cls n v ∈ E.2.2.2.1) (k : vm_T E y kc ks (pc + 3) lv (.int v :: st) h Q) : vm_T E y kc ks pc lv st h Q := by
  intro G p e R s m args below meth c H locs cells slots mc ms ls X I hL hl hc hs
  exact lv_ldcw X.1 X.2.1 X.2.2.2.2.2.2.1 (X.2.2.2.2.2.2.2.1 _ hw) hd (k G p e R s m args below meth c H locs cells slots mc ms ls X I hL hl hc hs)
theorem vm_r_ldc2 {E : vm_E} {y : vm_M} {kc ks pc : Nat} {lv : vm_L} {st : List Value} {h : vm_H} {Q : Option Value → vm_H → Prop} {n : Nat} {v : Int64} (hd : decode y.2.1 pc = .ok (.ldc2_w n, 3)) (hw : Jvm.Cond.constantLong y.1.cls n v ∈ E.2.2.2.1) (k : vm_T E y kc ks (pc + 3) lv (.long v :: st) h Q) : vm_T E y kc ks pc lv st h Q := by
  intro G p e R s m args below meth c H locs cells slots mc ms ls X I hL hl hc hs
  exact lv_ldc2 X.1 X.2.1 X.2.2.2.2.2.2.1 (X.2.2.2.2.2.2.2.1 _ hw) hd (k G p e R s m args below meth c H locs cells slots mc ms ls X I hL hl hc hs)
theorem vm_r_iret {E : vm_E} {y : vm_M} {kc ks pc : Nat} {lv : vm_L} {st : List Value} {h : vm_H} {Q : Option Value → vm_H → Prop} {x : Int32} (hd : decode y.2.1 pc = .ok (.ireturn, 1)) (hr : y.2.2.2.1 = some .int) (hq : Q (some (.int x)) h) : vm_T E y kc ks pc lv [.int x] h Q := by
  intro G p e R s m args below meth c H locs cells slots mc ms ls X I hL hl hc hs
  refine W.widen (k := mc) (n := ms) (by omega) (by omega) (vm_tgr (fun q => by cases q) hq fun Q2 hq => ?_)
  exact W.iret X.1 X.2.1 (X.2.2.2.1.trans hr) (fun t ht _ => ⟨some (.int x), h, rfl, hq, ht ▸ I⟩) hL hd X.2.2.2.2.1
theorem vm_r_zret {E : vm_E} {y : vm_M} {kc ks pc : Nat} {lv : vm_L} {st : List Value} {h : vm_H} {Q : Option Value → vm_H → Prop} {x : Int32} {ty : FieldType} (hz : narrow ty (.int x) = .int x) (hd : decode y.2.1 pc = .ok (.ireturn, 1)) (hr : y.2.2.2.1 = some ty) (hq : Q (some (.int x)) h) : vm_T E y kc ks pc lv [.int x] h Q := by
  intro G p e R s m args below meth c H locs cells slots mc ms ls X I hL hl hc hs
  refine W.widen (k := mc) (n := ms) (by omega) (by omega) (vm_tgr (fun q => by cases q) hq fun Q2 hq => ?_)
  exact W.zret X.1 X.2.1 (X.2.2.2.1.trans hr) hz (fun t ht _ => ⟨some (.int x), h, rfl, hq, ht ▸ I⟩) hL hd X.2.2.2.2.1
theorem vm_r_lret {E : vm_E} {y : vm_M} {kc ks pc : Nat} {lv : vm_L} {st : List Value} {h : vm_H} {Q : Option Value → vm_H → Prop} {x : Int64} (hd : decode y.2.1 pc = .ok (.lreturn, 1)) (hr : y.2.2.2.1 = some .long) (hq : Q (some (.long x)) h) : vm_T E y kc ks pc lv [.long x] h Q := by
  intro G p e R s m args below meth c H locs cells slots mc ms ls X I hL hl hc hs
  refine W.widen (k := mc) (n := ms) (by omega) (by omega) (vm_tgr (fun q => by cases q) hq fun Q2 hq => ?_)
  exact W.lret X.1 X.2.1 (X.2.2.2.1.trans hr) (fun t ht _ => ⟨some (.long x), h, rfl, hq, ht ▸ I⟩) hL hd X.2.2.2.2.1
theorem vm_r_vret {E : vm_E} {y : vm_M} {kc ks pc : Nat} {lv : vm_L} {st : List Value} {h : vm_H} {Q : Option Value → vm_H → Prop}  (hd : decode y.2.1 pc = .ok (.return_, 1)) (hr : y.2.2.2.1 = none) (hq : Q (none) h) : vm_T E y kc ks pc lv [] h Q := by
  intro G p e R s m args below meth c H locs cells slots mc ms ls X I hL hl hc hs
  refine W.widen (k := mc) (n := ms) (by omega) (by omega) (vm_tgr (fun q => by cases q) hq fun Q2 hq => ?_)
  exact W.vret X.1 X.2.1 (X.2.2.2.1.trans hr) (fun t ht _ => ⟨none, h, rfl, hq, ht ▸ I⟩) hL hd X.2.2.2.2.1
theorem vm_r_aret {E : vm_E} {y : vm_M} {kc ks pc : Nat} {lv : vm_L} {st : List Value} {h : vm_H} {Q : Option Value → vm_H → Prop} {x : Nat} {rt : FieldType} (hrt : (∃ n, rt = .object n) ∨ ∃ t, rt = .array t) (hd : decode y.2.1 pc = .ok (.areturn, 1)) (hr : y.2.2.2.1 = some rt) (hq : Q (some (.ref x)) h) : vm_T E y kc ks pc lv [.ref x] h Q := by
  intro G p e R s m args below meth c H locs cells slots mc ms ls X I hL hl hc hs
  refine W.widen (k := mc) (n := ms) (by omega) (by omega) (vm_tgr (fun q => by cases q) hq fun Q2 hq => ?_)
  exact W.aret X.1 X.2.1 (X.2.2.2.1.trans hr) hrt (Or.inr ⟨_, rfl⟩) (fun t ht _ => ⟨some (.ref x), h, rfl, hq, ht ▸ I⟩) hL hd X.2.2.2.2.1
theorem vm_r_aretN {E : vm_E} {y : vm_M} {kc ks pc : Nat} {lv : vm_L} {st : List Value} {h : vm_H} {Q : Option Value → vm_H → Prop} {rt : FieldType} (hrt : (∃ n, rt = .object n) ∨ ∃ t, rt = .array t) (hd : decode y.2.1 pc = .ok (.areturn, 1)) (hr : y.2.2.2.1 = some rt) (hq : Q (some (.null)) h) : vm_T E y kc ks pc lv [.null] h Q := by
  intro G p e R s m args below meth c H locs cells slots mc ms ls X I hL hl hc hs
  refine W.widen (k := mc) (n := ms) (by omega) (by omega) (vm_tgr (fun q => by cases q) hq fun Q2 hq => ?_)
  exact W.aret X.1 X.2.1 (X.2.2.2.1.trans hr) hrt (Or.inl rfl) (fun t ht _ => ⟨some .null, h, rfl, hq, ht ▸ I⟩) hL hd X.2.2.2.2.1
