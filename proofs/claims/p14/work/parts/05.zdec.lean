/-! the bytes of an instruction, and what decode reads there -/
section ZDE
abbrev zdI : Type := Jvm.ClassFile.Instr
abbrev zdD : Type → Type := Jvm.ClassFile.Decoder
def zdP (i : zdI) : zdD zdI := Pure.pure i
theorem zdF (pc : Nat) : ∃ f : Nat → zdD zdI, Jvm.ClassFile.Decoder.instr pc = ((Jvm.ClassFile.Reader.u1 : zdD Nat) >>= f) ∧ (f 1 = zdP .aconst_null) ∧ (f 46 = zdP .iaload) ∧ (f 47 = zdP .laload) ∧ (f 50 = zdP .aaload) ∧ (f 51 = zdP .baload) ∧ (f 79 = zdP .iastore) ∧ (f 80 = zdP .lastore) ∧ (f 83 = zdP .aastore) ∧ (f 84 = zdP .bastore) ∧ (f 87 = zdP .pop) ∧ (f 89 = zdP .dup) ∧ (f 90 = zdP .dup_x1) ∧ (f 92 = zdP .dup2) ∧ (f 96 = zdP .iadd) ∧ (f 97 = zdP .ladd) ∧ (f 100 = zdP .isub) ∧ (f 101 = zdP .lsub) ∧ (f 104 = zdP .imul) ∧ (f 105 = zdP .lmul) ∧ (f 108 = zdP .idiv) ∧ (f 109 = zdP .ldiv) ∧ (f 112 = zdP .irem) ∧ (f 116 = zdP .ineg) ∧ (f 120 = zdP .ishl) ∧ (f 122 = zdP .ishr) ∧ (f 124 = zdP .iushr) ∧ (f 126 = zdP .iand) ∧ (f 127 = zdP .land) ∧ (f 128 = zdP .ior) ∧ (f 129 = zdP .lor) ∧ (f 130 = zdP .ixor) ∧ (f 133 = zdP .i2l) ∧ (f 136 = zdP .l2i) ∧ (f 145 = zdP .i2b) ∧ (f 146 = zdP .i2c) ∧ (f 148 = zdP .lcmp) ∧ (f 172 = zdP .ireturn) ∧ (f 173 = zdP .lreturn) ∧ (f 176 = zdP .areturn) ∧ (f 177 = zdP .return_) ∧ (f 190 = zdP .arraylength) ∧ (f 2 = zdP (.iconst (-1))) ∧ (f 3 = zdP (.iconst 0)) ∧ (f 4 = zdP (.iconst 1)) ∧ (f 5 = zdP (.iconst 2)) ∧ (f 6 = zdP (.iconst 3)) ∧ (f 7 = zdP (.iconst 4)) ∧ (f 8 = zdP (.iconst 5)) ∧ (f 9 = zdP (.lconst 0)) ∧ (f 10 = zdP (.lconst 1)) ∧ (f 26 = zdP (.iload_n 0)) ∧ (f 27 = zdP (.iload_n 1)) ∧ (f 28 = zdP (.iload_n 2)) ∧ (f 29 = zdP (.iload_n 3)) ∧ (f 30 = zdP (.lload_n 0)) ∧ (f 31 = zdP (.lload_n 1)) ∧ (f 32 = zdP (.lload_n 2)) ∧ (f 33 = zdP (.lload_n 3)) ∧ (f 42 = zdP (.aload_n 0)) ∧ (f 43 = zdP (.aload_n 1)) ∧ (f 44 = zdP (.aload_n 2)) ∧ (f 45 = zdP (.aload_n 3)) ∧ (f 59 = zdP (.istore_n 0)) ∧ (f 60 = zdP (.istore_n 1)) ∧ (f 61 = zdP (.istore_n 2)) ∧ (f 62 = zdP (.istore_n 3)) ∧ (f 63 = zdP (.lstore_n 0)) ∧ (f 64 = zdP (.lstore_n 1)) ∧ (f 65 = zdP (.lstore_n 2)) ∧ (f 66 = zdP (.lstore_n 3)) ∧ (f 75 = zdP (.astore_n 0)) ∧ (f 76 = zdP (.astore_n 1)) ∧ (f 77 = zdP (.astore_n 2)) ∧ (f 78 = zdP (.astore_n 3)) ∧ (f 18 = ((Jvm.ClassFile.Reader.u1 : zdD Nat) >>= fun x => zdP (.ldc x))) ∧ (f 21 = ((Jvm.ClassFile.Reader.u1 : zdD Nat) >>= fun x => zdP (.iload x))) ∧ (f 22 = ((Jvm.ClassFile.Reader.u1 : zdD Nat) >>= fun x => zdP (.lload x))) ∧ (f 25 = ((Jvm.ClassFile.Reader.u1 : zdD Nat) >>= fun x => zdP (.aload x))) ∧ (f 54 = ((Jvm.ClassFile.Reader.u1 : zdD Nat) >>= fun x => zdP (.istore x))) ∧ (f 55 = ((Jvm.ClassFile.Reader.u1 : zdD Nat) >>= fun x => zdP (.lstore x))) ∧ (f 58 = ((Jvm.ClassFile.Reader.u1 : zdD Nat) >>= fun x => zdP (.astore x))) ∧ (f 19 = ((Jvm.ClassFile.Reader.u2 : zdD Nat) >>= fun x => zdP (.ldc_w x))) ∧ (f 20 = ((Jvm.ClassFile.Reader.u2 : zdD Nat) >>= fun x => zdP (.ldc2_w x))) ∧ (f 178 = ((Jvm.ClassFile.Reader.u2 : zdD Nat) >>= fun x => zdP (.getstatic x))) ∧ (f 180 = ((Jvm.ClassFile.Reader.u2 : zdD Nat) >>= fun x => zdP (.getfield x))) ∧ (f 181 = ((Jvm.ClassFile.Reader.u2 : zdD Nat) >>= fun x => zdP (.putfield x))) ∧ (f 182 = ((Jvm.ClassFile.Reader.u2 : zdD Nat) >>= fun x => zdP (.invokevirtual x))) ∧ (f 183 = ((Jvm.ClassFile.Reader.u2 : zdD Nat) >>= fun x => zdP (.invokespecial x))) ∧ (f 184 = ((Jvm.ClassFile.Reader.u2 : zdD Nat) >>= fun x => zdP (.invokestatic x))) ∧ (f 187 = ((Jvm.ClassFile.Reader.u2 : zdD Nat) >>= fun x => zdP (.new x))) ∧ (f 189 = ((Jvm.ClassFile.Reader.u2 : zdD Nat) >>= fun x => zdP (.anewarray x))) ∧ (f 192 = ((Jvm.ClassFile.Reader.u2 : zdD Nat) >>= fun x => zdP (.checkcast x))) ∧ (f 167 = ((Jvm.ClassFile.Reader.s2 : zdD Int) >>= fun x => zdP (.goto x))) ∧ (f 198 = ((Jvm.ClassFile.Reader.s2 : zdD Int) >>= fun x => zdP (.ifnull x))) ∧ (f 199 = ((Jvm.ClassFile.Reader.s2 : zdD Int) >>= fun x => zdP (.ifnonnull x))) ∧ (f 153 = ((Jvm.ClassFile.Reader.s2 : zdD Int) >>= fun x => zdP (.ifCond .eq x))) ∧ (f 159 = ((Jvm.ClassFile.Reader.s2 : zdD Int) >>= fun x => zdP (.if_icmp .eq x))) ∧ (f 154 = ((Jvm.ClassFile.Reader.s2 : zdD Int) >>= fun x => zdP (.ifCond .ne x))) ∧ (f 160 = ((Jvm.ClassFile.Reader.s2 : zdD Int) >>= fun x => zdP (.if_icmp .ne x))) ∧ (f 155 = ((Jvm.ClassFile.Reader.s2 : zdD Int) >>= fun x => zdP (.ifCond .lt x))) ∧ (f 161 = ((Jvm.ClassFile.Reader.s2 : zdD Int) >>= fun x => zdP (.if_icmp .lt x))) ∧ (f 156 = ((Jvm.ClassFile.Reader.s2 : zdD Int) >>= fun x => zdP (.ifCond .ge x))) ∧ (f 162 = ((Jvm.ClassFile.Reader.s2 : zdD Int) >>= fun x => zdP (.if_icmp .ge x))) ∧ (f 157 = ((Jvm.ClassFile.Reader.s2 : zdD Int) >>= fun x => zdP (.ifCond .gt x))) ∧ (f 163 = ((Jvm.ClassFile.Reader.s2 : zdD Int) >>= fun x => zdP (.if_icmp .gt x))) ∧ (f 158 = ((Jvm.ClassFile.Reader.s2 : zdD Int) >>= fun x => zdP (.ifCond .le x))) ∧ (f 164 = ((Jvm.ClassFile.Reader.s2 : zdD Int) >>= fun x => zdP (.if_icmp .le x))) ∧ (f 165 = ((Jvm.ClassFile.Reader.s2 : zdD Int) >>= fun x => zdP (.if_acmp .eq x))) ∧ (f 166 = ((Jvm.ClassFile.Reader.s2 : zdD Int) >>= fun x => zdP (.if_acmp .ne x))) ∧ (f 16 = ((Jvm.ClassFile.Reader.s1 : zdD Int) >>= fun x => zdP (.bipush x))) ∧ (f 17 = ((Jvm.ClassFile.Reader.s2 : zdD Int) >>= fun x => zdP (.sipush x))) ∧ (f 132 = ((Jvm.ClassFile.Reader.u1 : zdD Nat) >>= fun x => (Jvm.ClassFile.Reader.s1 : zdD Int) >>= fun y => zdP (.iinc x y))) ∧ (f 188 = Jvm.ClassFile.Decoder.newarray pc) ∧ (f 197 = Jvm.ClassFile.Decoder.multianewarray pc) := ⟨_, rfl, rfl, rfl, rfl, rfl, rfl, rfl, rfl, rfl, rfl, rfl, rfl, rfl, rfl, rfl, rfl, rfl, rfl, rfl, rfl, rfl, rfl, rfl, rfl, rfl, rfl, rfl, rfl, rfl, rfl, rfl, rfl, rfl, rfl, rfl, rfl, rfl, rfl, rfl, rfl, rfl, rfl, rfl, rfl, rfl, rfl, rfl, rfl, rfl, rfl, rfl, rfl, rfl, rfl, rfl, rfl, rfl, rfl, rfl, rfl, rfl, rfl, rfl, rfl, rfl, rfl, rfl, rfl, rfl, rfl, rfl, rfl, rfl, rfl, rfl, rfl, rfl, rfl, rfl, rfl, rfl, rfl, rfl, rfl, rfl, rfl, rfl, rfl, rfl, rfl, rfl, rfl, rfl, rfl, rfl, rfl, rfl, rfl, rfl, rfl, rfl, rfl, rfl, rfl, rfl, rfl, rfl, rfl, rfl, rfl, rfl, rfl, rfl, rfl, rfl⟩
variable {cc : ByteArray} {pc p : Nat} {f : Nat → zdD zdI} {i : zdI} {b c d : UInt8} {r : List UInt8}
/-- a byte at a place -/
def zdB (cc : ByteArray) (p : Nat) (b : UInt8) : Prop := cc.data.toList[p]? = some b
theorem zdB_of {l : List UInt8} (h : (cc.data.toList.drop pc).take l.length = l) {k : Nat} (hk : l[k]? = some b) : zdB cc (pc + k) b := by
  unfold zdB
  have h1 : ((cc.data.toList.drop pc).take l.length)[k]? = some b := by rw [h]; exact hk
  rw [List.getElem?_take] at h1
  split at h1
  · rw [List.getElem?_drop] at h1
    exact h1
  · cases h1
theorem zd_bind {α β : Type} {x : zdD α} {g : α → zdD β} {a : α} {q : Nat} (h : x.runAt cc p = .ok (a, q)) : (x >>= g).runAt cc p = (g a).runAt cc q := by
  show (x.runAt cc p >>= fun y => (g y.1).runAt cc y.2) = _
  rw [h]
  rfl
theorem zd_u1 (h : zdB cc p b) : (Jvm.ClassFile.Reader.u1 : zdD Nat).runAt cc p = .ok (b.toNat, p + 1) := by
  have hs : p < cc.size := by
    obtain ⟨h1, -⟩ := List.getElem?_eq_some_iff.mp h
    exact h1
  have hb : cc[p] = b := by
    obtain ⟨h1, h2⟩ := List.getElem?_eq_some_iff.mp h
    exact h2
  unfold Jvm.ClassFile.Reader.u1
  rw [zd_bind (x := (MonadReader.read : zdD ByteArray)) (a := cc) (q := p) rfl, zd_bind (x := (MonadState.get : zdD Nat)) (a := p) (q := p) rfl, dif_pos hs]
  show Except.ok (cc[p].toNat, p + 1) = _
  rw [hb]
theorem zd_u2 (h : zdB cc p b) (h2 : zdB cc (p + 1) c) : (Jvm.ClassFile.Reader.u2 : zdD Nat).runAt cc p = .ok (b.toNat * 256 + c.toNat, p + 2) := by
  unfold Jvm.ClassFile.Reader.u2
  rw [zd_bind (zd_u1 h), zd_bind (zd_u1 h2)]
  rfl
theorem zd_map {α β : Type} {x : zdD α} {g : α → β} {a : α} {q : Nat} (h : x.runAt cc p = .ok (a, q)) : (g <$> x).runAt cc p = .ok (g a, q) := by
  rw [map_eq_pure_bind, zd_bind h]
  rfl
theorem zd_s1 (h : zdB cc p b) : (Jvm.ClassFile.Reader.s1 : zdD Int).runAt cc p = .ok (Jvm.ClassFile.Reader.signed 8 b.toNat, p + 1) := zd_map (zd_u1 h)
theorem zd_s2 (h : zdB cc p b) (h2 : zdB cc (p + 1) c) : (Jvm.ClassFile.Reader.s2 : zdD Int).runAt cc p = .ok (Jvm.ClassFile.Reader.signed 16 (b.toNat * 256 + c.toNat), p + 2) := zd_map (zd_u2 h h2)
theorem zd_dec {q : Nat} (h : (Jvm.ClassFile.Decoder.instr pc).runAt cc pc = .ok (i, q)) : decode cc pc = .ok (i, q - pc) := by
  unfold decode
  rw [h]
  rfl
theorem zd_0 (hf : Jvm.ClassFile.Decoder.instr pc = ((Jvm.ClassFile.Reader.u1 : zdD Nat) >>= f)) (h : zdB cc pc b) (hb : f b.toNat = zdP i) : decode cc pc = .ok (i, 1) := by
  have := zd_dec (cc := cc) (pc := pc) (i := i) (q := pc + 1) (by rw [hf, zd_bind (zd_u1 h), hb]; rfl)
  rwa [show pc + 1 - pc = 1 by omega] at this
theorem zd_1 {K : Nat → zdI} (hf : Jvm.ClassFile.Decoder.instr pc = ((Jvm.ClassFile.Reader.u1 : zdD Nat) >>= f)) (h : zdB cc pc b) (h1 : zdB cc (pc + 1) c) (hb : f b.toNat = ((Jvm.ClassFile.Reader.u1 : zdD Nat) >>= fun x => zdP (K x))) : decode cc pc = .ok (K c.toNat, 2) := by
  have := zd_dec (cc := cc) (pc := pc) (i := K c.toNat) (q := pc + 1 + 1) (by rw [hf, zd_bind (zd_u1 h), hb, zd_bind (zd_u1 h1)]; rfl)
  rwa [show pc + 1 + 1 - pc = 2 by omega] at this
theorem zd_2 {K : Nat → zdI} (hf : Jvm.ClassFile.Decoder.instr pc = ((Jvm.ClassFile.Reader.u1 : zdD Nat) >>= f)) (h : zdB cc pc b) (h1 : zdB cc (pc + 1) c) (h2 : zdB cc (pc + 2) d) (hb : f b.toNat = ((Jvm.ClassFile.Reader.u2 : zdD Nat) >>= fun x => zdP (K x))) : decode cc pc = .ok (K (c.toNat * 256 + d.toNat), 3) := by
  have := zd_dec (cc := cc) (pc := pc) (i := K (c.toNat * 256 + d.toNat)) (q := pc + 1 + 2) (by rw [hf, zd_bind (zd_u1 h), hb, zd_bind (zd_u2 h1 h2)]; rfl)
  rwa [show pc + 1 + 2 - pc = 3 by omega] at this
theorem zd_s {K : Int → zdI} (hf : Jvm.ClassFile.Decoder.instr pc = ((Jvm.ClassFile.Reader.u1 : zdD Nat) >>= f)) (h : zdB cc pc b) (h1 : zdB cc (pc + 1) c) (h2 : zdB cc (pc + 2) d) (hb : f b.toNat = ((Jvm.ClassFile.Reader.s2 : zdD Int) >>= fun x => zdP (K x))) : decode cc pc = .ok (K (Jvm.ClassFile.Reader.signed 16 (c.toNat * 256 + d.toNat)), 3) := by
  have := zd_dec (cc := cc) (pc := pc) (i := K (Jvm.ClassFile.Reader.signed 16 (c.toNat * 256 + d.toNat))) (q := pc + 1 + 2) (by rw [hf, zd_bind (zd_u1 h), hb, zd_bind (zd_s2 h1 h2)]; rfl)
  rwa [show pc + 1 + 2 - pc = 3 by omega] at this
theorem zd_n {n : Nat} (h : n < 256) : (UInt8.ofNat n).toNat = n := by
  rw [UInt8.toNat_ofNat']
  omega
theorem zd_g8 {a : Int} (h : -128 ≤ a ∧ a ≤ 127) : Jvm.ClassFile.Reader.signed 8 (UInt8.ofNat (a % 256).toNat).toNat = a := by
  rw [zd_n (by omega)]
  unfold Jvm.ClassFile.Reader.signed
  split <;> omega
theorem zd_g16 {a : Int} (h : -32768 ≤ a ∧ a ≤ 32767) : Jvm.ClassFile.Reader.signed 16 ((UInt8.ofNat ((a % 65536).toNat / 256)).toNat * 256 + (UInt8.ofNat ((a % 65536).toNat % 256)).toNat) = a := by
  rw [zd_n (by omega), zd_n (by omega)]
  unfold Jvm.ClassFile.Reader.signed
  split <;> omega
theorem zd_u16 {g : Nat} (h : g < 65536) : (UInt8.ofNat (g / 256)).toNat * 256 + (UInt8.ofNat (g % 256)).toNat = g := by
  rw [zd_n (by omega), zd_n (by omega)]
  omega
/-- the bytes -/
def zen : zdI → Option (List UInt8)
  | .aconst_null => some [1]
  | .iaload => some [46]
  | .laload => some [47]
  | .aaload => some [50]
  | .baload => some [51]
  | .iastore => some [79]
  | .lastore => some [80]
  | .aastore => some [83]
  | .bastore => some [84]
  | .pop => some [87]
  | .dup => some [89]
  | .dup_x1 => some [90]
  | .dup2 => some [92]
  | .iadd => some [96]
  | .ladd => some [97]
  | .isub => some [100]
  | .lsub => some [101]
  | .imul => some [104]
  | .lmul => some [105]
  | .idiv => some [108]
  | .ldiv => some [109]
  | .irem => some [112]
  | .ineg => some [116]
  | .ishl => some [120]
  | .ishr => some [122]
  | .iushr => some [124]
  | .iand => some [126]
  | .land => some [127]
  | .ior => some [128]
  | .lor => some [129]
  | .ixor => some [130]
  | .i2l => some [133]
  | .l2i => some [136]
  | .i2b => some [145]
  | .i2c => some [146]
  | .lcmp => some [148]
  | .ireturn => some [172]
  | .lreturn => some [173]
  | .areturn => some [176]
  | .return_ => some [177]
  | .arraylength => some [190]
  | .iconst a => if -1 ≤ a ∧ a ≤ 5 then some [UInt8.ofNat (a + 3).toNat] else none
  | .lconst a => some [UInt8.ofNat (9 + a.val)]
  | .iload_n a => some [UInt8.ofNat (26 + a.val)]
  | .lload_n a => some [UInt8.ofNat (30 + a.val)]
  | .aload_n a => some [UInt8.ofNat (42 + a.val)]
  | .istore_n a => some [UInt8.ofNat (59 + a.val)]
  | .lstore_n a => some [UInt8.ofNat (63 + a.val)]
  | .astore_n a => some [UInt8.ofNat (75 + a.val)]
  | .ldc a => if a < 256 then some [18, UInt8.ofNat a] else none
  | .iload a => if a < 256 then some [21, UInt8.ofNat a] else none
  | .lload a => if a < 256 then some [22, UInt8.ofNat a] else none
  | .aload a => if a < 256 then some [25, UInt8.ofNat a] else none
  | .istore a => if a < 256 then some [54, UInt8.ofNat a] else none
  | .lstore a => if a < 256 then some [55, UInt8.ofNat a] else none
  | .astore a => if a < 256 then some [58, UInt8.ofNat a] else none
  | .ldc_w a => if a < 65536 then some [19, UInt8.ofNat (a / 256), UInt8.ofNat (a % 256)] else none
  | .ldc2_w a => if a < 65536 then some [20, UInt8.ofNat (a / 256), UInt8.ofNat (a % 256)] else none
  | .getstatic a => if a < 65536 then some [178, UInt8.ofNat (a / 256), UInt8.ofNat (a % 256)] else none
  | .getfield a => if a < 65536 then some [180, UInt8.ofNat (a / 256), UInt8.ofNat (a % 256)] else none
  | .putfield a => if a < 65536 then some [181, UInt8.ofNat (a / 256), UInt8.ofNat (a % 256)] else none
  | .invokevirtual a => if a < 65536 then some [182, UInt8.ofNat (a / 256), UInt8.ofNat (a % 256)] else none
  | .invokespecial a => if a < 65536 then some [183, UInt8.ofNat (a / 256), UInt8.ofNat (a % 256)] else none
  | .invokestatic a => if a < 65536 then some [184, UInt8.ofNat (a / 256), UInt8.ofNat (a % 256)] else none
  | .new a => if a < 65536 then some [187, UInt8.ofNat (a / 256), UInt8.ofNat (a % 256)] else none
  | .anewarray a => if a < 65536 then some [189, UInt8.ofNat (a / 256), UInt8.ofNat (a % 256)] else none
  | .checkcast a => if a < 65536 then some [192, UInt8.ofNat (a / 256), UInt8.ofNat (a % 256)] else none
  | .goto a => if -32768 ≤ a ∧ a ≤ 32767 then some [167, UInt8.ofNat ((a % 65536).toNat / 256), UInt8.ofNat ((a % 65536).toNat % 256)] else none
  | .ifnull a => if -32768 ≤ a ∧ a ≤ 32767 then some [198, UInt8.ofNat ((a % 65536).toNat / 256), UInt8.ofNat ((a % 65536).toNat % 256)] else none
  | .ifnonnull a => if -32768 ≤ a ∧ a ≤ 32767 then some [199, UInt8.ofNat ((a % 65536).toNat / 256), UInt8.ofNat ((a % 65536).toNat % 256)] else none
  | .sipush a => if -32768 ≤ a ∧ a ≤ 32767 then some [17, UInt8.ofNat ((a % 65536).toNat / 256), UInt8.ofNat ((a % 65536).toNat % 256)] else none
  | .ifCond .eq a => if -32768 ≤ a ∧ a ≤ 32767 then some [153, UInt8.ofNat ((a % 65536).toNat / 256), UInt8.ofNat ((a % 65536).toNat % 256)] else none
  | .ifCond .ne a => if -32768 ≤ a ∧ a ≤ 32767 then some [154, UInt8.ofNat ((a % 65536).toNat / 256), UInt8.ofNat ((a % 65536).toNat % 256)] else none
  | .ifCond .lt a => if -32768 ≤ a ∧ a ≤ 32767 then some [155, UInt8.ofNat ((a % 65536).toNat / 256), UInt8.ofNat ((a % 65536).toNat % 256)] else none
  | .ifCond .ge a => if -32768 ≤ a ∧ a ≤ 32767 then some [156, UInt8.ofNat ((a % 65536).toNat / 256), UInt8.ofNat ((a % 65536).toNat % 256)] else none
  | .ifCond .gt a => if -32768 ≤ a ∧ a ≤ 32767 then some [157, UInt8.ofNat ((a % 65536).toNat / 256), UInt8.ofNat ((a % 65536).toNat % 256)] else none
  | .ifCond .le a => if -32768 ≤ a ∧ a ≤ 32767 then some [158, UInt8.ofNat ((a % 65536).toNat / 256), UInt8.ofNat ((a % 65536).toNat % 256)] else none
  | .if_icmp .eq a => if -32768 ≤ a ∧ a ≤ 32767 then some [159, UInt8.ofNat ((a % 65536).toNat / 256), UInt8.ofNat ((a % 65536).toNat % 256)] else none
  | .if_icmp .ne a => if -32768 ≤ a ∧ a ≤ 32767 then some [160, UInt8.ofNat ((a % 65536).toNat / 256), UInt8.ofNat ((a % 65536).toNat % 256)] else none
  | .if_icmp .lt a => if -32768 ≤ a ∧ a ≤ 32767 then some [161, UInt8.ofNat ((a % 65536).toNat / 256), UInt8.ofNat ((a % 65536).toNat % 256)] else none
  | .if_icmp .ge a => if -32768 ≤ a ∧ a ≤ 32767 then some [162, UInt8.ofNat ((a % 65536).toNat / 256), UInt8.ofNat ((a % 65536).toNat % 256)] else none
  | .if_icmp .gt a => if -32768 ≤ a ∧ a ≤ 32767 then some [163, UInt8.ofNat ((a % 65536).toNat / 256), UInt8.ofNat ((a % 65536).toNat % 256)] else none
  | .if_icmp .le a => if -32768 ≤ a ∧ a ≤ 32767 then some [164, UInt8.ofNat ((a % 65536).toNat / 256), UInt8.ofNat ((a % 65536).toNat % 256)] else none
  | .if_acmp .eq a => if -32768 ≤ a ∧ a ≤ 32767 then some [165, UInt8.ofNat ((a % 65536).toNat / 256), UInt8.ofNat ((a % 65536).toNat % 256)] else none
  | .if_acmp .ne a => if -32768 ≤ a ∧ a ≤ 32767 then some [166, UInt8.ofNat ((a % 65536).toNat / 256), UInt8.ofNat ((a % 65536).toNat % 256)] else none
  | .bipush a => if -128 ≤ a ∧ a ≤ 127 then some [16, UInt8.ofNat (a % 256).toNat] else none
  | .iinc a b => if a < 256 ∧ -128 ≤ b ∧ b ≤ 127 then some [132, UInt8.ofNat a, UInt8.ofNat (b % 256).toNat] else none
  | .newarray .boolean => some [188, 4]
  | .newarray .byte => some [188, 8]
  | .newarray .int => some [188, 10]
  | .newarray .long => some [188, 11]
  | .multianewarray a 2 => if a < 65536 then some [197, UInt8.ofNat (a / 256), UInt8.ofNat (a % 256), 2] else none
  | .multianewarray a 3 => if a < 65536 then some [197, UInt8.ofNat (a / 256), UInt8.ofNat (a % 256), 3] else none
  | _ => none
theorem zen_ok {l : List UInt8} (he : zen i = some l) (h : (cc.data.toList.drop pc).take l.length = l) : decode cc pc = .ok (i, l.length) := by
  obtain ⟨f, hf, k1, k46, k47, k50, k51, k79, k80, k83, k84, k87, k89, k90, k92, k96, k97, k100, k101, k104, k105, k108, k109, k112, k116, k120, k122, k124, k126, k127, k128, k129, k130, k133, k136, k145, k146, k148, k172, k173, k176, k177, k190, k2, k3, k4, k5, k6, k7, k8, k9, k10, k26, k27, k28, k29, k30, k31, k32, k33, k42, k43, k44, k45, k59, k60, k61, k62, k63, k64, k65, k66, k75, k76, k77, k78, k18, k21, k22, k25, k54, k55, k58, k19, k20, k178, k180, k181, k182, k183, k184, k187, k189, k192, k167, k198, k199, k153, k159, k154, k160, k155, k161, k156, k162, k157, k163, k158, k164, k165, k166, k16, k17, k132, k188, k197⟩ := zdF pc
  unfold zen at he
  split at he
  · cases he
    exact zd_0 hf (zdB_of h (k := 0) rfl) k1
  · cases he
    exact zd_0 hf (zdB_of h (k := 0) rfl) k46
  · cases he
    exact zd_0 hf (zdB_of h (k := 0) rfl) k47
  · cases he
    exact zd_0 hf (zdB_of h (k := 0) rfl) k50
  · cases he
    exact zd_0 hf (zdB_of h (k := 0) rfl) k51
  · cases he
    exact zd_0 hf (zdB_of h (k := 0) rfl) k79
  · cases he
    exact zd_0 hf (zdB_of h (k := 0) rfl) k80
  · cases he
    exact zd_0 hf (zdB_of h (k := 0) rfl) k83
  · cases he
    exact zd_0 hf (zdB_of h (k := 0) rfl) k84
  · cases he
    exact zd_0 hf (zdB_of h (k := 0) rfl) k87
  · cases he
    exact zd_0 hf (zdB_of h (k := 0) rfl) k89
  · cases he
    exact zd_0 hf (zdB_of h (k := 0) rfl) k90
  · cases he
    exact zd_0 hf (zdB_of h (k := 0) rfl) k92
  · cases he
    exact zd_0 hf (zdB_of h (k := 0) rfl) k96
  · cases he
    exact zd_0 hf (zdB_of h (k := 0) rfl) k97
  · cases he
    exact zd_0 hf (zdB_of h (k := 0) rfl) k100
  · cases he
    exact zd_0 hf (zdB_of h (k := 0) rfl) k101
  · cases he
    exact zd_0 hf (zdB_of h (k := 0) rfl) k104
  · cases he
    exact zd_0 hf (zdB_of h (k := 0) rfl) k105
  · cases he
    exact zd_0 hf (zdB_of h (k := 0) rfl) k108
  · cases he
    exact zd_0 hf (zdB_of h (k := 0) rfl) k109
  · cases he
    exact zd_0 hf (zdB_of h (k := 0) rfl) k112
  · cases he
    exact zd_0 hf (zdB_of h (k := 0) rfl) k116
  · cases he
    exact zd_0 hf (zdB_of h (k := 0) rfl) k120
  · cases he
    exact zd_0 hf (zdB_of h (k := 0) rfl) k122
  · cases he
    exact zd_0 hf (zdB_of h (k := 0) rfl) k124
  · cases he
    exact zd_0 hf (zdB_of h (k := 0) rfl) k126
  · cases he
    exact zd_0 hf (zdB_of h (k := 0) rfl) k127
  · cases he
    exact zd_0 hf (zdB_of h (k := 0) rfl) k128
  · cases he
    exact zd_0 hf (zdB_of h (k := 0) rfl) k129
  · cases he
    exact zd_0 hf (zdB_of h (k := 0) rfl) k130
  · cases he
    exact zd_0 hf (zdB_of h (k := 0) rfl) k133
  · cases he
    exact zd_0 hf (zdB_of h (k := 0) rfl) k136
  · cases he
    exact zd_0 hf (zdB_of h (k := 0) rfl) k145
  · cases he
    exact zd_0 hf (zdB_of h (k := 0) rfl) k146
  · cases he
    exact zd_0 hf (zdB_of h (k := 0) rfl) k148
  · cases he
    exact zd_0 hf (zdB_of h (k := 0) rfl) k172
  · cases he
    exact zd_0 hf (zdB_of h (k := 0) rfl) k173
  · cases he
    exact zd_0 hf (zdB_of h (k := 0) rfl) k176
  · cases he
    exact zd_0 hf (zdB_of h (k := 0) rfl) k177
  · cases he
    exact zd_0 hf (zdB_of h (k := 0) rfl) k190
  · rename_i a
    split at he
    · rename_i ha
      cases he
      have ha2 : a = -1 ∨ a = 0 ∨ a = 1 ∨ a = 2 ∨ a = 3 ∨ a = 4 ∨ a = 5 := by omega
      rcases ha2 with rfl | rfl | rfl | rfl | rfl | rfl | rfl
      · exact zd_0 hf (zdB_of h (k := 0) rfl) k2
      · exact zd_0 hf (zdB_of h (k := 0) rfl) k3
      · exact zd_0 hf (zdB_of h (k := 0) rfl) k4
      · exact zd_0 hf (zdB_of h (k := 0) rfl) k5
      · exact zd_0 hf (zdB_of h (k := 0) rfl) k6
      · exact zd_0 hf (zdB_of h (k := 0) rfl) k7
      · exact zd_0 hf (zdB_of h (k := 0) rfl) k8
    · cases he
  · rename_i a
    cases he
    rcases a with ⟨v, hv⟩
    have hv2 : v = 0 ∨ v = 1 := by omega
    rcases hv2 with rfl | rfl
    · exact zd_0 hf (zdB_of h (k := 0) rfl) k9
    · exact zd_0 hf (zdB_of h (k := 0) rfl) k10
  · rename_i a
    cases he
    rcases a with ⟨v, hv⟩
    have hv2 : v = 0 ∨ v = 1 ∨ v = 2 ∨ v = 3 := by omega
    rcases hv2 with rfl | rfl | rfl | rfl
    · exact zd_0 hf (zdB_of h (k := 0) rfl) k26
    · exact zd_0 hf (zdB_of h (k := 0) rfl) k27
    · exact zd_0 hf (zdB_of h (k := 0) rfl) k28
    · exact zd_0 hf (zdB_of h (k := 0) rfl) k29
  · rename_i a
    cases he
    rcases a with ⟨v, hv⟩
    have hv2 : v = 0 ∨ v = 1 ∨ v = 2 ∨ v = 3 := by omega
    rcases hv2 with rfl | rfl | rfl | rfl
    · exact zd_0 hf (zdB_of h (k := 0) rfl) k30
    · exact zd_0 hf (zdB_of h (k := 0) rfl) k31
    · exact zd_0 hf (zdB_of h (k := 0) rfl) k32
    · exact zd_0 hf (zdB_of h (k := 0) rfl) k33
  · rename_i a
    cases he
    rcases a with ⟨v, hv⟩
    have hv2 : v = 0 ∨ v = 1 ∨ v = 2 ∨ v = 3 := by omega
    rcases hv2 with rfl | rfl | rfl | rfl
    · exact zd_0 hf (zdB_of h (k := 0) rfl) k42
    · exact zd_0 hf (zdB_of h (k := 0) rfl) k43
    · exact zd_0 hf (zdB_of h (k := 0) rfl) k44
    · exact zd_0 hf (zdB_of h (k := 0) rfl) k45
  · rename_i a
    cases he
    rcases a with ⟨v, hv⟩
    have hv2 : v = 0 ∨ v = 1 ∨ v = 2 ∨ v = 3 := by omega
    rcases hv2 with rfl | rfl | rfl | rfl
    · exact zd_0 hf (zdB_of h (k := 0) rfl) k59
    · exact zd_0 hf (zdB_of h (k := 0) rfl) k60
    · exact zd_0 hf (zdB_of h (k := 0) rfl) k61
    · exact zd_0 hf (zdB_of h (k := 0) rfl) k62
  · rename_i a
    cases he
    rcases a with ⟨v, hv⟩
    have hv2 : v = 0 ∨ v = 1 ∨ v = 2 ∨ v = 3 := by omega
    rcases hv2 with rfl | rfl | rfl | rfl
    · exact zd_0 hf (zdB_of h (k := 0) rfl) k63
    · exact zd_0 hf (zdB_of h (k := 0) rfl) k64
    · exact zd_0 hf (zdB_of h (k := 0) rfl) k65
    · exact zd_0 hf (zdB_of h (k := 0) rfl) k66
  · rename_i a
    cases he
    rcases a with ⟨v, hv⟩
    have hv2 : v = 0 ∨ v = 1 ∨ v = 2 ∨ v = 3 := by omega
    rcases hv2 with rfl | rfl | rfl | rfl
    · exact zd_0 hf (zdB_of h (k := 0) rfl) k75
    · exact zd_0 hf (zdB_of h (k := 0) rfl) k76
    · exact zd_0 hf (zdB_of h (k := 0) rfl) k77
    · exact zd_0 hf (zdB_of h (k := 0) rfl) k78
  · rename_i a
    split at he
    · rename_i ha
      cases he
      have w := zd_1 hf (zdB_of h (k := 0) rfl) (zdB_of h (k := 1) rfl) k18
      rw [zd_n ha] at w
      exact w
    · cases he
  · rename_i a
    split at he
    · rename_i ha
      cases he
      have w := zd_1 hf (zdB_of h (k := 0) rfl) (zdB_of h (k := 1) rfl) k21
      rw [zd_n ha] at w
      exact w
    · cases he
  · rename_i a
    split at he
    · rename_i ha
      cases he
      have w := zd_1 hf (zdB_of h (k := 0) rfl) (zdB_of h (k := 1) rfl) k22
      rw [zd_n ha] at w
      exact w
    · cases he
  · rename_i a
    split at he
    · rename_i ha
      cases he
      have w := zd_1 hf (zdB_of h (k := 0) rfl) (zdB_of h (k := 1) rfl) k25
      rw [zd_n ha] at w
      exact w
    · cases he
  · rename_i a
    split at he
    · rename_i ha
      cases he
      have w := zd_1 hf (zdB_of h (k := 0) rfl) (zdB_of h (k := 1) rfl) k54
      rw [zd_n ha] at w
      exact w
    · cases he
  · rename_i a
    split at he
    · rename_i ha
      cases he
      have w := zd_1 hf (zdB_of h (k := 0) rfl) (zdB_of h (k := 1) rfl) k55
      rw [zd_n ha] at w
      exact w
    · cases he
  · rename_i a
    split at he
    · rename_i ha
      cases he
      have w := zd_1 hf (zdB_of h (k := 0) rfl) (zdB_of h (k := 1) rfl) k58
      rw [zd_n ha] at w
      exact w
    · cases he
  · rename_i a
    split at he
    · rename_i ha
      cases he
      have w := zd_2 hf (zdB_of h (k := 0) rfl) (zdB_of h (k := 1) rfl) (zdB_of h (k := 2) rfl) k19
      rw [zd_u16 ha] at w
      exact w
    · cases he
  · rename_i a
    split at he
    · rename_i ha
      cases he
      have w := zd_2 hf (zdB_of h (k := 0) rfl) (zdB_of h (k := 1) rfl) (zdB_of h (k := 2) rfl) k20
      rw [zd_u16 ha] at w
      exact w
    · cases he
  · rename_i a
    split at he
    · rename_i ha
      cases he
      have w := zd_2 hf (zdB_of h (k := 0) rfl) (zdB_of h (k := 1) rfl) (zdB_of h (k := 2) rfl) k178
      rw [zd_u16 ha] at w
      exact w
    · cases he
  · rename_i a
    split at he
    · rename_i ha
      cases he
      have w := zd_2 hf (zdB_of h (k := 0) rfl) (zdB_of h (k := 1) rfl) (zdB_of h (k := 2) rfl) k180
      rw [zd_u16 ha] at w
      exact w
    · cases he
  · rename_i a
    split at he
    · rename_i ha
      cases he
      have w := zd_2 hf (zdB_of h (k := 0) rfl) (zdB_of h (k := 1) rfl) (zdB_of h (k := 2) rfl) k181
      rw [zd_u16 ha] at w
      exact w
    · cases he
  · rename_i a
    split at he
    · rename_i ha
      cases he
      have w := zd_2 hf (zdB_of h (k := 0) rfl) (zdB_of h (k := 1) rfl) (zdB_of h (k := 2) rfl) k182
      rw [zd_u16 ha] at w
      exact w
    · cases he
  · rename_i a
    split at he
    · rename_i ha
      cases he
      have w := zd_2 hf (zdB_of h (k := 0) rfl) (zdB_of h (k := 1) rfl) (zdB_of h (k := 2) rfl) k183
      rw [zd_u16 ha] at w
      exact w
    · cases he
  · rename_i a
    split at he
    · rename_i ha
      cases he
      have w := zd_2 hf (zdB_of h (k := 0) rfl) (zdB_of h (k := 1) rfl) (zdB_of h (k := 2) rfl) k184
      rw [zd_u16 ha] at w
      exact w
    · cases he
  · rename_i a
    split at he
    · rename_i ha
      cases he
      have w := zd_2 hf (zdB_of h (k := 0) rfl) (zdB_of h (k := 1) rfl) (zdB_of h (k := 2) rfl) k187
      rw [zd_u16 ha] at w
      exact w
    · cases he
  · rename_i a
    split at he
    · rename_i ha
      cases he
      have w := zd_2 hf (zdB_of h (k := 0) rfl) (zdB_of h (k := 1) rfl) (zdB_of h (k := 2) rfl) k189
      rw [zd_u16 ha] at w
      exact w
    · cases he
  · rename_i a
    split at he
    · rename_i ha
      cases he
      have w := zd_2 hf (zdB_of h (k := 0) rfl) (zdB_of h (k := 1) rfl) (zdB_of h (k := 2) rfl) k192
      rw [zd_u16 ha] at w
      exact w
    · cases he
  · rename_i a
    split at he
    · rename_i ha
      cases he
      have w := zd_s hf (zdB_of h (k := 0) rfl) (zdB_of h (k := 1) rfl) (zdB_of h (k := 2) rfl) k167
      rw [zd_g16 ha] at w
      exact w
    · cases he
  · rename_i a
    split at he
    · rename_i ha
      cases he
      have w := zd_s hf (zdB_of h (k := 0) rfl) (zdB_of h (k := 1) rfl) (zdB_of h (k := 2) rfl) k198
      rw [zd_g16 ha] at w
      exact w
    · cases he
  · rename_i a
    split at he
    · rename_i ha
      cases he
      have w := zd_s hf (zdB_of h (k := 0) rfl) (zdB_of h (k := 1) rfl) (zdB_of h (k := 2) rfl) k199
      rw [zd_g16 ha] at w
      exact w
    · cases he
  · rename_i a
    split at he
    · rename_i ha
      cases he
      have w := zd_s hf (zdB_of h (k := 0) rfl) (zdB_of h (k := 1) rfl) (zdB_of h (k := 2) rfl) k17
      rw [zd_g16 ha] at w
      exact w
    · cases he
  · rename_i a
    split at he
    · rename_i ha
      cases he
      have w := zd_s hf (zdB_of h (k := 0) rfl) (zdB_of h (k := 1) rfl) (zdB_of h (k := 2) rfl) k153
      rw [zd_g16 ha] at w
      exact w
    · cases he
  · rename_i a
    split at he
    · rename_i ha
      cases he
      have w := zd_s hf (zdB_of h (k := 0) rfl) (zdB_of h (k := 1) rfl) (zdB_of h (k := 2) rfl) k154
      rw [zd_g16 ha] at w
      exact w
    · cases he
  · rename_i a
    split at he
    · rename_i ha
      cases he
      have w := zd_s hf (zdB_of h (k := 0) rfl) (zdB_of h (k := 1) rfl) (zdB_of h (k := 2) rfl) k155
      rw [zd_g16 ha] at w
      exact w
    · cases he
  · rename_i a
    split at he
    · rename_i ha
      cases he
      have w := zd_s hf (zdB_of h (k := 0) rfl) (zdB_of h (k := 1) rfl) (zdB_of h (k := 2) rfl) k156
      rw [zd_g16 ha] at w
      exact w
    · cases he
  · rename_i a
    split at he
    · rename_i ha
      cases he
      have w := zd_s hf (zdB_of h (k := 0) rfl) (zdB_of h (k := 1) rfl) (zdB_of h (k := 2) rfl) k157
      rw [zd_g16 ha] at w
      exact w
    · cases he
  · rename_i a
    split at he
    · rename_i ha
      cases he
      have w := zd_s hf (zdB_of h (k := 0) rfl) (zdB_of h (k := 1) rfl) (zdB_of h (k := 2) rfl) k158
      rw [zd_g16 ha] at w
      exact w
    · cases he
  · rename_i a
    split at he
    · rename_i ha
      cases he
      have w := zd_s hf (zdB_of h (k := 0) rfl) (zdB_of h (k := 1) rfl) (zdB_of h (k := 2) rfl) k159
      rw [zd_g16 ha] at w
      exact w
    · cases he
  · rename_i a
    split at he
    · rename_i ha
      cases he
      have w := zd_s hf (zdB_of h (k := 0) rfl) (zdB_of h (k := 1) rfl) (zdB_of h (k := 2) rfl) k160
      rw [zd_g16 ha] at w
      exact w
    · cases he
  · rename_i a
    split at he
    · rename_i ha
      cases he
      have w := zd_s hf (zdB_of h (k := 0) rfl) (zdB_of h (k := 1) rfl) (zdB_of h (k := 2) rfl) k161
      rw [zd_g16 ha] at w
      exact w
    · cases he
  · rename_i a
    split at he
    · rename_i ha
      cases he
      have w := zd_s hf (zdB_of h (k := 0) rfl) (zdB_of h (k := 1) rfl) (zdB_of h (k := 2) rfl) k162
      rw [zd_g16 ha] at w
      exact w
    · cases he
  · rename_i a
    split at he
    · rename_i ha
      cases he
      have w := zd_s hf (zdB_of h (k := 0) rfl) (zdB_of h (k := 1) rfl) (zdB_of h (k := 2) rfl) k163
      rw [zd_g16 ha] at w
      exact w
    · cases he
  · rename_i a
    split at he
    · rename_i ha
      cases he
      have w := zd_s hf (zdB_of h (k := 0) rfl) (zdB_of h (k := 1) rfl) (zdB_of h (k := 2) rfl) k164
      rw [zd_g16 ha] at w
      exact w
    · cases he
  · rename_i a
    split at he
    · rename_i ha
      cases he
      have w := zd_s hf (zdB_of h (k := 0) rfl) (zdB_of h (k := 1) rfl) (zdB_of h (k := 2) rfl) k165
      rw [zd_g16 ha] at w
      exact w
    · cases he
  · rename_i a
    split at he
    · rename_i ha
      cases he
      have w := zd_s hf (zdB_of h (k := 0) rfl) (zdB_of h (k := 1) rfl) (zdB_of h (k := 2) rfl) k166
      rw [zd_g16 ha] at w
      exact w
    · cases he
  · rename_i a
    split at he
    · rename_i ha
      cases he
      have w := zd_dec (cc := cc) (pc := pc) (i := .bipush (Jvm.ClassFile.Reader.signed 8 (UInt8.ofNat (a % 256).toNat).toNat)) (q := pc + 1 + 1) (by rw [hf, zd_bind (zd_u1 (show zdB cc pc _ from zdB_of h (k := 0) rfl)), show f (16 : UInt8).toNat = _ from k16, zd_bind (zd_s1 (zdB_of h (k := 1) rfl))]; rfl)
      rw [zd_g8 ha, show pc + 1 + 1 - pc = 2 by omega] at w
      exact w
    · cases he
  · rename_i a b
    split at he
    · rename_i ha
      cases he
      have w := zd_dec (cc := cc) (pc := pc) (i := .iinc (UInt8.ofNat a).toNat (Jvm.ClassFile.Reader.signed 8 (UInt8.ofNat (b % 256).toNat).toNat)) (q := pc + 1 + 1 + 1) (by rw [hf, zd_bind (zd_u1 (show zdB cc pc _ from zdB_of h (k := 0) rfl)), show f (132 : UInt8).toNat = _ from k132, zd_bind (zd_u1 (zdB_of h (k := 1) rfl)), zd_bind (zd_s1 (zdB_of h (k := 2) rfl))]; rfl)
      rw [zd_n ha.1, zd_g8 ha.2, show pc + 1 + 1 + 1 - pc = 3 by omega] at w
      exact w
    · cases he
  · cases he
    have w := zd_dec (cc := cc) (pc := pc) (i := .newarray .boolean) (q := pc + 1 + 1) (by rw [hf, zd_bind (zd_u1 (show zdB cc pc _ from zdB_of h (k := 0) rfl)), show f (188 : UInt8).toNat = _ from k188]; unfold Jvm.ClassFile.Decoder.newarray; rw [zd_bind (zd_u1 (zdB_of h (k := 1) rfl))]; rfl)
    rw [show pc + 1 + 1 - pc = 2 by omega] at w
    exact w
  · cases he
    have w := zd_dec (cc := cc) (pc := pc) (i := .newarray .byte) (q := pc + 1 + 1) (by rw [hf, zd_bind (zd_u1 (show zdB cc pc _ from zdB_of h (k := 0) rfl)), show f (188 : UInt8).toNat = _ from k188]; unfold Jvm.ClassFile.Decoder.newarray; rw [zd_bind (zd_u1 (zdB_of h (k := 1) rfl))]; rfl)
    rw [show pc + 1 + 1 - pc = 2 by omega] at w
    exact w
  · cases he
    have w := zd_dec (cc := cc) (pc := pc) (i := .newarray .int) (q := pc + 1 + 1) (by rw [hf, zd_bind (zd_u1 (show zdB cc pc _ from zdB_of h (k := 0) rfl)), show f (188 : UInt8).toNat = _ from k188]; unfold Jvm.ClassFile.Decoder.newarray; rw [zd_bind (zd_u1 (zdB_of h (k := 1) rfl))]; rfl)
    rw [show pc + 1 + 1 - pc = 2 by omega] at w
    exact w
  · cases he
    have w := zd_dec (cc := cc) (pc := pc) (i := .newarray .long) (q := pc + 1 + 1) (by rw [hf, zd_bind (zd_u1 (show zdB cc pc _ from zdB_of h (k := 0) rfl)), show f (188 : UInt8).toNat = _ from k188]; unfold Jvm.ClassFile.Decoder.newarray; rw [zd_bind (zd_u1 (zdB_of h (k := 1) rfl))]; rfl)
    rw [show pc + 1 + 1 - pc = 2 by omega] at w
    exact w
  · rename_i a
    split at he
    · rename_i ha
      cases he
      have w := zd_dec (cc := cc) (pc := pc) (i := .multianewarray ((UInt8.ofNat (a / 256)).toNat * 256 + (UInt8.ofNat (a % 256)).toNat) 2) (q := pc + 1 + 2 + 1) (by rw [hf, zd_bind (zd_u1 (show zdB cc pc _ from zdB_of h (k := 0) rfl)), show f (197 : UInt8).toNat = _ from k197]; unfold Jvm.ClassFile.Decoder.multianewarray; rw [zd_bind (zd_u2 (zdB_of h (k := 1) rfl) (zdB_of h (k := 2) rfl)), zd_bind (zd_u1 (zdB_of h (k := 3) rfl))]; rfl)
      rw [zd_u16 ha, show pc + 1 + 2 + 1 - pc = 4 by omega] at w
      exact w
    · cases he
  · rename_i a
    split at he
    · rename_i ha
      cases he
      have w := zd_dec (cc := cc) (pc := pc) (i := .multianewarray ((UInt8.ofNat (a / 256)).toNat * 256 + (UInt8.ofNat (a % 256)).toNat) 3) (q := pc + 1 + 2 + 1) (by rw [hf, zd_bind (zd_u1 (show zdB cc pc _ from zdB_of h (k := 0) rfl)), show f (197 : UInt8).toNat = _ from k197]; unfold Jvm.ClassFile.Decoder.multianewarray; rw [zd_bind (zd_u2 (zdB_of h (k := 1) rfl) (zdB_of h (k := 2) rfl)), zd_bind (zd_u1 (zdB_of h (k := 3) rfl))]; rfl)
      rw [zd_u16 ha, show pc + 1 + 2 + 1 - pc = 4 by omega] at w
      exact w
    · cases he
  · cases he
/-- lists of bytes, in one pass -/
def zlq : List UInt8 → List UInt8 → Bool
  | [], [] => true
  | a :: l, b :: m => Nat.beq a.toNat b.toNat && zlq l m
  | _, _ => false
theorem zlq_of : ∀ l m : List UInt8, zlq l m = true → l = m
  | [], [], _ => rfl
  | a :: l, b :: m, h => by
    unfold zlq at h
    rw [Bool.and_eq_true] at h
    rw [UInt8.toNat_inj.mp (Nat.eq_of_beq_eq_true h.1), zlq_of l m h.2]
  | [], _ :: _, h => by cases h
  | _ :: _, [], h => by cases h
def zdq (cc : ByteArray) (pc : Nat) (i : zdI) (n : Nat) : Bool := match zen i with
  | some l => Nat.beq n l.length && zlq ((cc.data.toList.drop pc).take n) l
  | none => decide (decode cc pc = .ok (i, n))
theorem zdq_of {n : Nat} (h : zdq cc pc i n = true) : decode cc pc = .ok (i, n) := by
  unfold zdq at h
  split at h
  · rename_i l hl
    rw [Bool.and_eq_true] at h
    have h1 := Nat.eq_of_beq_eq_true h.1
    subst h1
    exact zen_ok hl (zlq_of _ _ h.2)
  · exact of_decide_eq_true h
end ZDE
