/-- a byte of a code -/
def zb_at (co : ByteArray) (pc b : Nat) : Prop := ∃ h : pc < co.size, (co[pc]'h).toNat = b
abbrev zb_D (α : Type) : Type := Jvm.ClassFile.Decoder α
theorem zb_u1 {co : ByteArray} {p b : Nat} (h : zb_at co p b) : (Jvm.ClassFile.Reader.u1 : zb_D Nat) co p = .ok (b, p + 1) := by
  obtain ⟨h, rfl⟩ := h
  unfold Jvm.ClassFile.Reader.u1
  show (if h : p < co.size then (do set (p + 1); pure (co[p]'h).toNat : zb_D Nat) else throw (Jvm.ClassFile.HasTruncated.truncated p)) co p = _
  rw [dif_pos h]
  rfl
theorem zb_bind {α β : Type} {x : zb_D α} {k : α → zb_D β} {co : ByteArray} {p s : Nat} {a : α} (hx : x co p = .ok (a, s)) : (x >>= k) co p = k a co s := by
  show Except.bind (x co p) (fun q => k q.1 co q.2) = _
  rw [hx]
  rfl
theorem zb_map {α β : Type} {x : zb_D α} {f : α → β} {co : ByteArray} {p s : Nat} {a : α} (hx : x co p = .ok (a, s)) : (f <$> x) co p = .ok (f a, s) := by
  show Except.bind (x co p) (fun q => Except.ok (f q.1, q.2)) = _
  rw [hx]
  rfl
theorem zb_dec {co : ByteArray} {pc n len : Nat} {i : Jvm.ClassFile.Instr} (h : Jvm.ClassFile.Decoder.instr pc co pc = .ok (i, n)) (e : n - pc = len) : decode co pc = .ok (i, len) := by
  subst e
  unfold decode
  rw [show (Jvm.ClassFile.Decoder.instr pc).runAt co pc = .ok (i, n) from h]
  rfl
theorem zb_u2 {co : ByteArray} {p hi lo : Nat} (h1 : zb_at co p hi) (h2 : zb_at co (p + 1) lo) : (Jvm.ClassFile.Reader.u2 : zb_D Nat) co p = .ok (hi * 256 + lo, p + 2) := (zb_bind (zb_u1 h1)).trans ((zb_bind (zb_u1 h2)).trans rfl)
theorem zb_li {L : List UInt8} {pc : Nat} {x : UInt8} (h : L[pc]? = some x) : zb_at (.mk ⟨L⟩) pc x.toNat := by
  obtain ⟨h1, h2⟩ := List.getElem?_eq_some_iff.mp h
  exact ⟨h1, by rw [← h2]; rfl⟩
theorem zo_3 {co : ByteArray} {pc : Nat} (h : zb_at co pc 3) : decode co pc = .ok (.iconst 0, 1) := zb_dec ((zb_bind (zb_u1 h)).trans rfl) (Nat.add_sub_cancel_left _ _)
theorem zo_4 {co : ByteArray} {pc : Nat} (h : zb_at co pc 4) : decode co pc = .ok (.iconst 1, 1) := zb_dec ((zb_bind (zb_u1 h)).trans rfl) (Nat.add_sub_cancel_left _ _)
theorem zo_5 {co : ByteArray} {pc : Nat} (h : zb_at co pc 5) : decode co pc = .ok (.iconst 2, 1) := zb_dec ((zb_bind (zb_u1 h)).trans rfl) (Nat.add_sub_cancel_left _ _)
theorem zo_6 {co : ByteArray} {pc : Nat} (h : zb_at co pc 6) : decode co pc = .ok (.iconst 3, 1) := zb_dec ((zb_bind (zb_u1 h)).trans rfl) (Nat.add_sub_cancel_left _ _)
theorem zo_7 {co : ByteArray} {pc : Nat} (h : zb_at co pc 7) : decode co pc = .ok (.iconst 4, 1) := zb_dec ((zb_bind (zb_u1 h)).trans rfl) (Nat.add_sub_cancel_left _ _)
theorem zo_8 {co : ByteArray} {pc : Nat} (h : zb_at co pc 8) : decode co pc = .ok (.iconst 5, 1) := zb_dec ((zb_bind (zb_u1 h)).trans rfl) (Nat.add_sub_cancel_left _ _)
theorem zo_26 {co : ByteArray} {pc : Nat} (h : zb_at co pc 26) : decode co pc = .ok (.iload_n 0, 1) := zb_dec ((zb_bind (zb_u1 h)).trans rfl) (Nat.add_sub_cancel_left _ _)
theorem zo_27 {co : ByteArray} {pc : Nat} (h : zb_at co pc 27) : decode co pc = .ok (.iload_n 1, 1) := zb_dec ((zb_bind (zb_u1 h)).trans rfl) (Nat.add_sub_cancel_left _ _)
theorem zo_28 {co : ByteArray} {pc : Nat} (h : zb_at co pc 28) : decode co pc = .ok (.iload_n 2, 1) := zb_dec ((zb_bind (zb_u1 h)).trans rfl) (Nat.add_sub_cancel_left _ _)
theorem zo_29 {co : ByteArray} {pc : Nat} (h : zb_at co pc 29) : decode co pc = .ok (.iload_n 3, 1) := zb_dec ((zb_bind (zb_u1 h)).trans rfl) (Nat.add_sub_cancel_left _ _)
theorem zo_42 {co : ByteArray} {pc : Nat} (h : zb_at co pc 42) : decode co pc = .ok (.aload_n 0, 1) := zb_dec ((zb_bind (zb_u1 h)).trans rfl) (Nat.add_sub_cancel_left _ _)
theorem zo_43 {co : ByteArray} {pc : Nat} (h : zb_at co pc 43) : decode co pc = .ok (.aload_n 1, 1) := zb_dec ((zb_bind (zb_u1 h)).trans rfl) (Nat.add_sub_cancel_left _ _)
theorem zo_44 {co : ByteArray} {pc : Nat} (h : zb_at co pc 44) : decode co pc = .ok (.aload_n 2, 1) := zb_dec ((zb_bind (zb_u1 h)).trans rfl) (Nat.add_sub_cancel_left _ _)
theorem zo_45 {co : ByteArray} {pc : Nat} (h : zb_at co pc 45) : decode co pc = .ok (.aload_n 3, 1) := zb_dec ((zb_bind (zb_u1 h)).trans rfl) (Nat.add_sub_cancel_left _ _)
theorem zo_46 {co : ByteArray} {pc : Nat} (h : zb_at co pc 46) : decode co pc = .ok (.iaload, 1) := zb_dec ((zb_bind (zb_u1 h)).trans rfl) (Nat.add_sub_cancel_left _ _)
theorem zo_87 {co : ByteArray} {pc : Nat} (h : zb_at co pc 87) : decode co pc = .ok (.pop, 1) := zb_dec ((zb_bind (zb_u1 h)).trans rfl) (Nat.add_sub_cancel_left _ _)
theorem zo_88 {co : ByteArray} {pc : Nat} (h : zb_at co pc 88) : decode co pc = .ok (.pop2, 1) := zb_dec ((zb_bind (zb_u1 h)).trans rfl) (Nat.add_sub_cancel_left _ _)
theorem zo_96 {co : ByteArray} {pc : Nat} (h : zb_at co pc 96) : decode co pc = .ok (.iadd, 1) := zb_dec ((zb_bind (zb_u1 h)).trans rfl) (Nat.add_sub_cancel_left _ _)
theorem zo_121 {co : ByteArray} {pc : Nat} (h : zb_at co pc 121) : decode co pc = .ok (.lshl, 1) := zb_dec ((zb_bind (zb_u1 h)).trans rfl) (Nat.add_sub_cancel_left _ _)
theorem zo_127 {co : ByteArray} {pc : Nat} (h : zb_at co pc 127) : decode co pc = .ok (.land, 1) := zb_dec ((zb_bind (zb_u1 h)).trans rfl) (Nat.add_sub_cancel_left _ _)
theorem zo_129 {co : ByteArray} {pc : Nat} (h : zb_at co pc 129) : decode co pc = .ok (.lor, 1) := zb_dec ((zb_bind (zb_u1 h)).trans rfl) (Nat.add_sub_cancel_left _ _)
theorem zo_133 {co : ByteArray} {pc : Nat} (h : zb_at co pc 133) : decode co pc = .ok (.i2l, 1) := zb_dec ((zb_bind (zb_u1 h)).trans rfl) (Nat.add_sub_cancel_left _ _)
theorem zo_182 {co : ByteArray} {pc hi lo n : Nat} (h : zb_at co pc 182) (h1 : zb_at co (pc + 1) hi) (h2 : zb_at co (pc + 2) lo) (e : hi * 256 + lo = n) : decode co pc = .ok (.invokevirtual n, 3) := by
  subst e
  exact zb_dec ((zb_bind (zb_u1 h)).trans ((zb_bind (zb_u2 h1 h2)).trans rfl)) (by omega)
theorem zo_20 {co : ByteArray} {pc hi lo n : Nat} (h : zb_at co pc 20) (h1 : zb_at co (pc + 1) hi) (h2 : zb_at co (pc + 2) lo) (e : hi * 256 + lo = n) : decode co pc = .ok (.ldc2_w n, 3) := by
  subst e
  exact zb_dec ((zb_bind (zb_u1 h)).trans ((zb_bind (zb_u2 h1 h2)).trans rfl)) (by omega)
theorem zo_16 {co : ByteArray} {pc lo : Nat} {n : Int} (h : zb_at co pc 16) (h1 : zb_at co (pc + 1) lo) (e : Jvm.ClassFile.Reader.signed 8 lo = n) : decode co pc = .ok (.bipush n, 2) := by
  subst e
  exact zb_dec ((zb_bind (zb_u1 h)).trans ((zb_bind (zb_map (zb_u1 h1))).trans rfl)) (by omega)
theorem zo_167 {co : ByteArray} {pc hi lo : Nat} {n : Int} (h : zb_at co pc 167) (h1 : zb_at co (pc + 1) hi) (h2 : zb_at co (pc + 2) lo) (e : Jvm.ClassFile.Reader.signed 16 (hi * 256 + lo) = n) : decode co pc = .ok (.goto n, 3) := by
  subst e
  exact zb_dec ((zb_bind (zb_u1 h)).trans ((zb_bind (zb_map (zb_u2 h1 h2))).trans rfl)) (by omega)
def zr_117 : List UInt8 := 0x03 :: 0x09 :: 0xa7 :: 0xf8 :: 0xc0 :: 0x04 :: 0xac :: []
def zr_116 : List UInt8 := 0xa7 :: 0x2c :: 0x2a :: 0x1d :: 0x04 :: 0x60 :: 0x2e :: 0xb6 :: 0x00 :: 0xaa :: 0x9f :: 0x00 :: 0x05 :: 0x03 :: 0xac :: 0x84 :: zr_117
def zr_115 : List UInt8 := 0x2c :: 0xb6 :: 0x00 :: 0xa6 :: 0x57 :: 0xa7 :: 0x00 :: 0x1a :: 0x2b :: 0x2a :: 0x1d :: 0x04 :: 0x60 :: 0x2e :: 0xb6 :: 0x00 :: zr_116
def zr_114 : List UInt8 := 0x00 :: 0x9f :: 0x57 :: 0x2c :: 0xb6 :: 0x00 :: 0xa2 :: 0x57 :: 0xa7 :: 0x00 :: 0x27 :: 0x2b :: 0xb6 :: 0x00 :: 0xa3 :: 0x57 :: zr_115
def zr_113 : List UInt8 := 0x41 :: 0x2b :: 0xb6 :: 0x00 :: 0x9b :: 0x57 :: 0x2c :: 0xb6 :: 0x00 :: 0x9e :: 0x57 :: 0xa7 :: 0x00 :: 0x34 :: 0x2b :: 0xb6 :: zr_114
def zr_112 : List UInt8 := 0x58 :: 0xa7 :: 0x00 :: 0x4e :: 0x2b :: 0xb6 :: 0x00 :: 0x96 :: 0x58 :: 0x2c :: 0xb6 :: 0x00 :: 0x9a :: 0x58 :: 0xa7 :: 0x00 :: zr_113
def zr_111 : List UInt8 := 0x04 :: 0x60 :: 0x2e :: 0xb6 :: 0x00 :: 0x91 :: 0x58 :: 0x2c :: 0x2a :: 0x1d :: 0x04 :: 0x60 :: 0x2e :: 0xb6 :: 0x00 :: 0x95 :: zr_112
def zr_110 : List UInt8 := 0x85 :: 0x14 :: 0x00 :: 0x31 :: 0x7f :: 0x81 :: 0xb6 :: 0x00 :: 0x90 :: 0x57 :: 0xa7 :: 0x00 :: 0x65 :: 0x2b :: 0x2a :: 0x1d :: zr_111
def zr_109 : List UInt8 := 0x2a :: 0x1d :: 0x10 :: 0x06 :: 0x60 :: 0x2e :: 0x85 :: 0x10 :: 0x20 :: 0x79 :: 0x2a :: 0x1d :: 0x10 :: 0x07 :: 0x60 :: 0x2e :: zr_110
def zr_108 : List UInt8 := 0x2e :: 0x85 :: 0x10 :: 0x20 :: 0x79 :: 0x2a :: 0x1d :: 0x08 :: 0x60 :: 0x2e :: 0x85 :: 0x14 :: 0x00 :: 0x31 :: 0x7f :: 0x81 :: zr_109
def zr_107 : List UInt8 := 0x60 :: 0x2e :: 0x2a :: 0x1d :: 0x05 :: 0x60 :: 0x2e :: 0x2a :: 0x1d :: 0x06 :: 0x60 :: 0x2e :: 0x2a :: 0x1d :: 0x07 :: 0x60 :: zr_108
def zr_106 : List UInt8 := 0x60 :: 0x2e :: 0x85 :: 0x14 :: 0x00 :: 0x31 :: 0x7f :: 0x81 :: 0xb6 :: 0x00 :: 0x8c :: 0x57 :: 0x2c :: 0x2a :: 0x1d :: 0x04 :: zr_107
def zr_105 : List UInt8 := 0x7f :: 0x81 :: 0x2a :: 0x1d :: 0x10 :: 0x06 :: 0x60 :: 0x2e :: 0x85 :: 0x10 :: 0x20 :: 0x79 :: 0x2a :: 0x1d :: 0x10 :: 0x07 :: zr_106
def zr_104 : List UInt8 := 0x07 :: 0x60 :: 0x2e :: 0x85 :: 0x10 :: 0x20 :: 0x79 :: 0x2a :: 0x1d :: 0x08 :: 0x60 :: 0x2e :: 0x85 :: 0x14 :: 0x00 :: 0x31 :: zr_105
def zr_103 : List UInt8 := 0x1d :: 0x04 :: 0x60 :: 0x2e :: 0x2a :: 0x1d :: 0x05 :: 0x60 :: 0x2e :: 0x2a :: 0x1d :: 0x06 :: 0x60 :: 0x2e :: 0x2a :: 0x1d :: zr_104
def zr_102 : List UInt8 := 0x60 :: 0x2e :: 0x2a :: 0x1d :: 0x05 :: 0x60 :: 0x2e :: 0xb6 :: 0x00 :: 0x8b :: 0x58 :: 0xa7 :: 0x00 :: 0xe4 :: 0x2b :: 0x2a :: zr_103
def zr_101 : List UInt8 := 0x04 :: 0x60 :: 0x2e :: 0x2a :: 0x1d :: 0x05 :: 0x60 :: 0x2e :: 0xb6 :: 0x00 :: 0x87 :: 0x58 :: 0x2c :: 0x2a :: 0x1d :: 0x04 :: zr_102
def zr_100 : List UInt8 := 0x2e :: 0x2a :: 0x1d :: 0x05 :: 0x60 :: 0x2e :: 0xb6 :: 0x00 :: 0x86 :: 0x57 :: 0xa7 :: 0x01 :: 0x05 :: 0x2b :: 0x2a :: 0x1d :: zr_101
def zr_99 : List UInt8 := 0x60 :: 0x2e :: 0x2a :: 0x1d :: 0x05 :: 0x60 :: 0x2e :: 0xb6 :: 0x00 :: 0x83 :: 0x57 :: 0x2c :: 0x2a :: 0x1d :: 0x04 :: 0x60 :: zr_100
def zr_98 : List UInt8 := 0x2a :: 0x1d :: 0x05 :: 0x60 :: 0x2e :: 0xb6 :: 0x00 :: 0x82 :: 0x57 :: 0xa7 :: 0x01 :: 0x26 :: 0x2b :: 0x2a :: 0x1d :: 0x04 :: zr_99
def zr_97 : List UInt8 := 0x2e :: 0x2a :: 0x1d :: 0x05 :: 0x60 :: 0x2e :: 0xb6 :: 0x00 :: 0x7f :: 0x57 :: 0x2c :: 0x2a :: 0x1d :: 0x04 :: 0x60 :: 0x2e :: zr_98
def zr_96 : List UInt8 := 0x00 :: 0x31 :: 0x7f :: 0x81 :: 0xb6 :: 0x00 :: 0x7e :: 0x57 :: 0xa7 :: 0x01 :: 0x47 :: 0x2b :: 0x2a :: 0x1d :: 0x04 :: 0x60 :: zr_97
def zr_95 : List UInt8 := 0x10 :: 0x06 :: 0x60 :: 0x2e :: 0x85 :: 0x10 :: 0x20 :: 0x79 :: 0x2a :: 0x1d :: 0x10 :: 0x07 :: 0x60 :: 0x2e :: 0x85 :: 0x14 :: zr_96
def zr_94 : List UInt8 := 0x10 :: 0x20 :: 0x79 :: 0x2a :: 0x1d :: 0x08 :: 0x60 :: 0x2e :: 0x85 :: 0x14 :: 0x00 :: 0x31 :: 0x7f :: 0x81 :: 0x2a :: 0x1d :: zr_95
def zr_93 : List UInt8 := 0x1d :: 0x06 :: 0x60 :: 0x2e :: 0x85 :: 0x14 :: 0x00 :: 0x31 :: 0x7f :: 0x81 :: 0x2a :: 0x1d :: 0x07 :: 0x60 :: 0x2e :: 0x85 :: zr_94
def zr_92 : List UInt8 := 0x2c :: 0x2a :: 0x1d :: 0x04 :: 0x60 :: 0x2e :: 0x2a :: 0x1d :: 0x05 :: 0x60 :: 0x2e :: 0x85 :: 0x10 :: 0x20 :: 0x79 :: 0x2a :: zr_93
def zr_91 : List UInt8 := 0x2a :: 0x1d :: 0x10 :: 0x07 :: 0x60 :: 0x2e :: 0x85 :: 0x14 :: 0x00 :: 0x31 :: 0x7f :: 0x81 :: 0xb6 :: 0x00 :: 0x7a :: 0x57 :: zr_92
def zr_90 : List UInt8 := 0x85 :: 0x14 :: 0x00 :: 0x31 :: 0x7f :: 0x81 :: 0x2a :: 0x1d :: 0x10 :: 0x06 :: 0x60 :: 0x2e :: 0x85 :: 0x10 :: 0x20 :: 0x79 :: zr_91
def zr_89 : List UInt8 := 0x7f :: 0x81 :: 0x2a :: 0x1d :: 0x07 :: 0x60 :: 0x2e :: 0x85 :: 0x10 :: 0x20 :: 0x79 :: 0x2a :: 0x1d :: 0x08 :: 0x60 :: 0x2e :: zr_90
def zr_88 : List UInt8 := 0x05 :: 0x60 :: 0x2e :: 0x85 :: 0x10 :: 0x20 :: 0x79 :: 0x2a :: 0x1d :: 0x06 :: 0x60 :: 0x2e :: 0x85 :: 0x14 :: 0x00 :: 0x31 :: zr_89
def zr_87 : List UInt8 := 0x81 :: 0xb6 :: 0x00 :: 0x79 :: 0x57 :: 0xa7 :: 0x01 :: 0xda :: 0x2b :: 0x2a :: 0x1d :: 0x04 :: 0x60 :: 0x2e :: 0x2a :: 0x1d :: zr_88
def zr_86 : List UInt8 := 0x60 :: 0x2e :: 0x85 :: 0x10 :: 0x20 :: 0x79 :: 0x2a :: 0x1d :: 0x06 :: 0x60 :: 0x2e :: 0x85 :: 0x14 :: 0x00 :: 0x31 :: 0x7f :: zr_87
def zr_85 : List UInt8 := 0x31 :: 0x7f :: 0x81 :: 0xb6 :: 0x00 :: 0x76 :: 0x57 :: 0x2c :: 0x2a :: 0x1d :: 0x04 :: 0x60 :: 0x2e :: 0x2a :: 0x1d :: 0x05 :: zr_86
def zr_84 : List UInt8 := 0x1d :: 0x05 :: 0x60 :: 0x2e :: 0x85 :: 0x10 :: 0x20 :: 0x79 :: 0x2a :: 0x1d :: 0x06 :: 0x60 :: 0x2e :: 0x85 :: 0x14 :: 0x00 :: zr_85
def zr_83 : List UInt8 := 0x60 :: 0x2e :: 0xb6 :: 0x00 :: 0x75 :: 0x57 :: 0xa7 :: 0x02 :: 0x19 :: 0x2b :: 0x2a :: 0x1d :: 0x04 :: 0x60 :: 0x2e :: 0x2a :: zr_84
def zr_82 : List UInt8 := 0x05 :: 0x60 :: 0x2e :: 0x2a :: 0x1d :: 0x06 :: 0x60 :: 0x2e :: 0x2a :: 0x1d :: 0x07 :: 0x60 :: 0x2e :: 0x2a :: 0x1d :: 0x08 :: zr_83
def zr_81 : List UInt8 := 0x1d :: 0x08 :: 0x60 :: 0x2e :: 0xb6 :: 0x00 :: 0x72 :: 0x57 :: 0x2c :: 0x2a :: 0x1d :: 0x04 :: 0x60 :: 0x2e :: 0x2a :: 0x1d :: zr_82
def zr_80 : List UInt8 := 0x2a :: 0x1d :: 0x05 :: 0x60 :: 0x2e :: 0x2a :: 0x1d :: 0x06 :: 0x60 :: 0x2e :: 0x2a :: 0x1d :: 0x07 :: 0x60 :: 0x2e :: 0x2a :: zr_81
def zr_79 : List UInt8 := 0x04 :: 0x60 :: 0x2e :: 0xb6 :: 0x00 :: 0x71 :: 0x57 :: 0xa7 :: 0x02 :: 0x58 :: 0x2b :: 0x2a :: 0x1d :: 0x04 :: 0x60 :: 0x2e :: zr_80
def zr_78 : List UInt8 := 0xa7 :: 0x02 :: 0x6f :: 0x2b :: 0x2a :: 0x1d :: 0x04 :: 0x60 :: 0x2e :: 0xb6 :: 0x00 :: 0x6e :: 0x57 :: 0x2c :: 0x2a :: 0x1d :: zr_79
def zr_77 : List UInt8 := 0x57 :: 0x2c :: 0x2a :: 0x1d :: 0x04 :: 0x60 :: 0x2e :: 0x2a :: 0x1d :: 0x05 :: 0x60 :: 0x2e :: 0xb6 :: 0x00 :: 0x6d :: 0x57 :: zr_78
def zr_76 : List UInt8 := 0x02 :: 0x90 :: 0x2b :: 0x2a :: 0x1d :: 0x04 :: 0x60 :: 0x2e :: 0x2a :: 0x1d :: 0x05 :: 0x60 :: 0x2e :: 0xb6 :: 0x00 :: 0x6a :: zr_77
def zr_75 : List UInt8 := 0x2a :: 0x1d :: 0x06 :: 0x60 :: 0x2e :: 0x85 :: 0x14 :: 0x00 :: 0x31 :: 0x7f :: 0x81 :: 0xb6 :: 0x00 :: 0x69 :: 0x57 :: 0xa7 :: zr_76
def zr_74 : List UInt8 := 0x57 :: 0x2c :: 0x2a :: 0x1d :: 0x04 :: 0x60 :: 0x2e :: 0x2a :: 0x1d :: 0x05 :: 0x60 :: 0x2e :: 0x85 :: 0x10 :: 0x20 :: 0x79 :: zr_75
def zr_73 : List UInt8 := 0x20 :: 0x79 :: 0x2a :: 0x1d :: 0x06 :: 0x60 :: 0x2e :: 0x85 :: 0x14 :: 0x00 :: 0x31 :: 0x7f :: 0x81 :: 0xb6 :: 0x00 :: 0x65 :: zr_74
def zr_72 : List UInt8 := 0xa7 :: 0x02 :: 0xcf :: 0x2b :: 0x2a :: 0x1d :: 0x04 :: 0x60 :: 0x2e :: 0x2a :: 0x1d :: 0x05 :: 0x60 :: 0x2e :: 0x85 :: 0x10 :: zr_73
def zr_71 : List UInt8 := 0x60 :: 0x2e :: 0x2a :: 0x1d :: 0x05 :: 0x60 :: 0x2e :: 0x2a :: 0x1d :: 0x06 :: 0x60 :: 0x2e :: 0xb6 :: 0x00 :: 0x64 :: 0x57 :: zr_72
def zr_70 : List UInt8 := 0x05 :: 0x60 :: 0x2e :: 0x2a :: 0x1d :: 0x06 :: 0x60 :: 0x2e :: 0xb6 :: 0x00 :: 0x61 :: 0x57 :: 0x2c :: 0x2a :: 0x1d :: 0x04 :: zr_71
def zr_69 : List UInt8 := 0x2e :: 0xb6 :: 0x00 :: 0x60 :: 0x57 :: 0xa7 :: 0x02 :: 0xfa :: 0x2b :: 0x2a :: 0x1d :: 0x04 :: 0x60 :: 0x2e :: 0x2a :: 0x1d :: zr_70
def zr_68 : List UInt8 := 0x11 :: 0x2b :: 0x2a :: 0x1d :: 0x04 :: 0x60 :: 0x2e :: 0xb6 :: 0x00 :: 0x5c :: 0x57 :: 0x2c :: 0x2a :: 0x1d :: 0x04 :: 0x60 :: zr_69
def zr_67 : List UInt8 := 0x2a :: 0x1d :: 0x04 :: 0x60 :: 0x2e :: 0x2a :: 0x1d :: 0x05 :: 0x60 :: 0x2e :: 0xb6 :: 0x00 :: 0x5b :: 0x57 :: 0xa7 :: 0x03 :: zr_68
def zr_66 : List UInt8 := 0x2b :: 0x2a :: 0x1d :: 0x04 :: 0x60 :: 0x2e :: 0x2a :: 0x1d :: 0x05 :: 0x60 :: 0x2e :: 0xb6 :: 0x00 :: 0x58 :: 0x57 :: 0x2c :: zr_67
def zr_65 : List UInt8 := 0x1d :: 0x07 :: 0x60 :: 0x2e :: 0x2a :: 0x1d :: 0x08 :: 0x60 :: 0x2e :: 0xb6 :: 0x00 :: 0x57 :: 0x57 :: 0xa7 :: 0x03 :: 0x32 :: zr_66
def zr_64 : List UInt8 := 0x2a :: 0x1d :: 0x04 :: 0x60 :: 0x2e :: 0x2a :: 0x1d :: 0x05 :: 0x60 :: 0x2e :: 0x2a :: 0x1d :: 0x06 :: 0x60 :: 0x2e :: 0x2a :: zr_65
def zr_63 : List UInt8 := 0x2e :: 0x2a :: 0x1d :: 0x07 :: 0x60 :: 0x2e :: 0x2a :: 0x1d :: 0x08 :: 0x60 :: 0x2e :: 0xb6 :: 0x00 :: 0x54 :: 0x57 :: 0x2c :: zr_64
def zr_62 : List UInt8 := 0x71 :: 0x2b :: 0x2a :: 0x1d :: 0x04 :: 0x60 :: 0x2e :: 0x2a :: 0x1d :: 0x05 :: 0x60 :: 0x2e :: 0x2a :: 0x1d :: 0x06 :: 0x60 :: zr_63
def zr_61 : List UInt8 := 0x10 :: 0x06 :: 0x60 :: 0x2e :: 0x85 :: 0x14 :: 0x00 :: 0x31 :: 0x7f :: 0x81 :: 0xb6 :: 0x00 :: 0x53 :: 0x57 :: 0xa7 :: 0x03 :: zr_62
def zr_60 : List UInt8 := 0x2a :: 0x1d :: 0x07 :: 0x60 :: 0x2e :: 0x2a :: 0x1d :: 0x08 :: 0x60 :: 0x2e :: 0x85 :: 0x10 :: 0x20 :: 0x79 :: 0x2a :: 0x1d :: zr_61
def zr_59 : List UInt8 := 0x2c :: 0x2a :: 0x1d :: 0x04 :: 0x60 :: 0x2e :: 0x2a :: 0x1d :: 0x05 :: 0x60 :: 0x2e :: 0x2a :: 0x1d :: 0x06 :: 0x60 :: 0x2e :: zr_60
def zr_58 : List UInt8 := 0x2a :: 0x1d :: 0x10 :: 0x06 :: 0x60 :: 0x2e :: 0x85 :: 0x14 :: 0x00 :: 0x31 :: 0x7f :: 0x81 :: 0xb6 :: 0x00 :: 0x4f :: 0x57 :: zr_59
def zr_57 : List UInt8 := 0x60 :: 0x2e :: 0x2a :: 0x1d :: 0x07 :: 0x60 :: 0x2e :: 0x2a :: 0x1d :: 0x08 :: 0x60 :: 0x2e :: 0x85 :: 0x10 :: 0x20 :: 0x79 :: zr_58
def zr_56 : List UInt8 := 0x03 :: 0xd0 :: 0x2b :: 0x2a :: 0x1d :: 0x04 :: 0x60 :: 0x2e :: 0x2a :: 0x1d :: 0x05 :: 0x60 :: 0x2e :: 0x2a :: 0x1d :: 0x06 :: zr_57
def zr_55 : List UInt8 := 0x2c :: 0x2a :: 0x1d :: 0x04 :: 0x60 :: 0x2e :: 0x2a :: 0x1d :: 0x05 :: 0x60 :: 0x2e :: 0xb6 :: 0x00 :: 0x4e :: 0x57 :: 0xa7 :: zr_56
def zr_54 : List UInt8 := 0xf1 :: 0x2b :: 0x2a :: 0x1d :: 0x04 :: 0x60 :: 0x2e :: 0x2a :: 0x1d :: 0x05 :: 0x60 :: 0x2e :: 0xb6 :: 0x00 :: 0x4b :: 0x57 :: zr_55
def zr_53 : List UInt8 := 0x57 :: 0xa7 :: 0x03 :: 0xfe :: 0x2b :: 0xb6 :: 0x00 :: 0x46 :: 0x57 :: 0x2c :: 0xb6 :: 0x00 :: 0x4a :: 0x57 :: 0xa7 :: 0x03 :: zr_54
def zr_52 : List UInt8 := 0x42 :: 0x57 :: 0x2c :: 0x2a :: 0x1d :: 0x04 :: 0x60 :: 0x2e :: 0x2a :: 0x1d :: 0x05 :: 0x60 :: 0x2e :: 0xb6 :: 0x00 :: 0x45 :: zr_53
def zr_51 : List UInt8 := 0xa7 :: 0x04 :: 0x1f :: 0x2b :: 0x2a :: 0x1d :: 0x04 :: 0x60 :: 0x2e :: 0x2a :: 0x1d :: 0x05 :: 0x60 :: 0x2e :: 0xb6 :: 0x00 :: zr_52
def zr_50 : List UInt8 := 0x10 :: 0x06 :: 0x60 :: 0x2e :: 0x99 :: 0x00 :: 0x07 :: 0x04 :: 0xa7 :: 0x00 :: 0x04 :: 0x03 :: 0xb6 :: 0x00 :: 0x41 :: 0x57 :: zr_51
def zr_49 : List UInt8 := 0x1d :: 0x06 :: 0x60 :: 0x2e :: 0x2a :: 0x1d :: 0x07 :: 0x60 :: 0x2e :: 0x2a :: 0x1d :: 0x08 :: 0x60 :: 0x2e :: 0x2a :: 0x1d :: zr_50
def zr_48 : List UInt8 := 0xb6 :: 0x00 :: 0x3d :: 0x57 :: 0x2c :: 0x2a :: 0x1d :: 0x04 :: 0x60 :: 0x2e :: 0x2a :: 0x1d :: 0x05 :: 0x60 :: 0x2e :: 0x2a :: zr_49
def zr_47 : List UInt8 := 0x60 :: 0x2e :: 0x2a :: 0x1d :: 0x10 :: 0x06 :: 0x60 :: 0x2e :: 0x99 :: 0x00 :: 0x07 :: 0x04 :: 0xa7 :: 0x00 :: 0x04 :: 0x03 :: zr_48
def zr_46 : List UInt8 := 0x05 :: 0x60 :: 0x2e :: 0x2a :: 0x1d :: 0x06 :: 0x60 :: 0x2e :: 0x2a :: 0x1d :: 0x07 :: 0x60 :: 0x2e :: 0x2a :: 0x1d :: 0x08 :: zr_47
def zr_45 : List UInt8 := 0x2e :: 0xb6 :: 0x00 :: 0x3c :: 0x57 :: 0xa7 :: 0x04 :: 0x7a :: 0x2b :: 0x2a :: 0x1d :: 0x04 :: 0x60 :: 0x2e :: 0x2a :: 0x1d :: zr_46
def zr_44 : List UInt8 := 0x60 :: 0x2e :: 0x2a :: 0x1d :: 0x06 :: 0x60 :: 0x2e :: 0x2a :: 0x1d :: 0x07 :: 0x60 :: 0x2e :: 0x2a :: 0x1d :: 0x08 :: 0x60 :: zr_45
def zr_43 : List UInt8 := 0x08 :: 0x60 :: 0x2e :: 0xb6 :: 0x00 :: 0x38 :: 0x57 :: 0x2c :: 0x2a :: 0x1d :: 0x04 :: 0x60 :: 0x2e :: 0x2a :: 0x1d :: 0x05 :: zr_44
def zr_42 : List UInt8 := 0x1d :: 0x05 :: 0x60 :: 0x2e :: 0x2a :: 0x1d :: 0x06 :: 0x60 :: 0x2e :: 0x2a :: 0x1d :: 0x07 :: 0x60 :: 0x2e :: 0x2a :: 0x1d :: zr_43
def zr_41 : List UInt8 := 0x7f :: 0x81 :: 0xb6 :: 0x00 :: 0x37 :: 0x57 :: 0xa7 :: 0x04 :: 0xb9 :: 0x2b :: 0x2a :: 0x1d :: 0x04 :: 0x60 :: 0x2e :: 0x2a :: zr_42
def zr_40 : List UInt8 := 0x60 :: 0x2e :: 0x85 :: 0x10 :: 0x20 :: 0x79 :: 0x2a :: 0x1d :: 0x10 :: 0x08 :: 0x60 :: 0x2e :: 0x85 :: 0x14 :: 0x00 :: 0x31 :: zr_41
def zr_39 : List UInt8 := 0x2e :: 0x2a :: 0x1d :: 0x08 :: 0x60 :: 0x2e :: 0x2a :: 0x1d :: 0x10 :: 0x06 :: 0x60 :: 0x2e :: 0x2a :: 0x1d :: 0x10 :: 0x07 :: zr_40
def zr_38 : List UInt8 := 0x60 :: 0x2e :: 0x2a :: 0x1d :: 0x05 :: 0x60 :: 0x2e :: 0x2a :: 0x1d :: 0x06 :: 0x60 :: 0x2e :: 0x2a :: 0x1d :: 0x07 :: 0x60 :: zr_39
def zr_37 : List UInt8 := 0x60 :: 0x2e :: 0x85 :: 0x14 :: 0x00 :: 0x31 :: 0x7f :: 0x81 :: 0xb6 :: 0x00 :: 0x33 :: 0x57 :: 0x2c :: 0x2a :: 0x1d :: 0x04 :: zr_38
def zr_36 : List UInt8 := 0x60 :: 0x2e :: 0x2a :: 0x1d :: 0x10 :: 0x07 :: 0x60 :: 0x2e :: 0x85 :: 0x10 :: 0x20 :: 0x79 :: 0x2a :: 0x1d :: 0x10 :: 0x08 :: zr_37
def zr_35 : List UInt8 := 0x60 :: 0x2e :: 0x2a :: 0x1d :: 0x07 :: 0x60 :: 0x2e :: 0x2a :: 0x1d :: 0x08 :: 0x60 :: 0x2e :: 0x2a :: 0x1d :: 0x10 :: 0x06 :: zr_36
def zr_34 : List UInt8 := 0x05 :: 0x30 :: 0x2b :: 0x2a :: 0x1d :: 0x04 :: 0x60 :: 0x2e :: 0x2a :: 0x1d :: 0x05 :: 0x60 :: 0x2e :: 0x2a :: 0x1d :: 0x06 :: zr_35
def zr_33 : List UInt8 := 0x2a :: 0x1d :: 0x08 :: 0x60 :: 0x2e :: 0x2a :: 0x1d :: 0x10 :: 0x06 :: 0x60 :: 0x2e :: 0xb6 :: 0x00 :: 0x30 :: 0x58 :: 0xa7 :: zr_34
def zr_32 : List UInt8 := 0x2e :: 0x2a :: 0x1d :: 0x05 :: 0x60 :: 0x2e :: 0x2a :: 0x1d :: 0x06 :: 0x60 :: 0x2e :: 0x2a :: 0x1d :: 0x07 :: 0x60 :: 0x2e :: zr_33
def zr_31 : List UInt8 := 0x2e :: 0x2a :: 0x1d :: 0x10 :: 0x06 :: 0x60 :: 0x2e :: 0xb6 :: 0x00 :: 0x2c :: 0x58 :: 0x2c :: 0x2a :: 0x1d :: 0x04 :: 0x60 :: zr_32
def zr_30 : List UInt8 := 0x60 :: 0x2e :: 0x2a :: 0x1d :: 0x06 :: 0x60 :: 0x2e :: 0x2a :: 0x1d :: 0x07 :: 0x60 :: 0x2e :: 0x2a :: 0x1d :: 0x08 :: 0x60 :: zr_31
def zr_29 : List UInt8 := 0xb6 :: 0x00 :: 0x2b :: 0x57 :: 0xa7 :: 0x05 :: 0x7b :: 0x2b :: 0x2a :: 0x1d :: 0x04 :: 0x60 :: 0x2e :: 0x2a :: 0x1d :: 0x05 :: zr_30
def zr_28 : List UInt8 := 0x2c :: 0x2a :: 0x1d :: 0x04 :: 0x60 :: 0x2e :: 0x2a :: 0x1d :: 0x05 :: 0x60 :: 0x2e :: 0x2a :: 0x1d :: 0x06 :: 0x60 :: 0x2e :: zr_29
def zr_27 : List UInt8 := 0x60 :: 0x2e :: 0x2a :: 0x1d :: 0x05 :: 0x60 :: 0x2e :: 0x2a :: 0x1d :: 0x06 :: 0x60 :: 0x2e :: 0xb6 :: 0x00 :: 0x27 :: 0x57 :: zr_28
def zr_26 : List UInt8 := 0x2a :: 0x1d :: 0x05 :: 0x60 :: 0x2e :: 0xb6 :: 0x00 :: 0x26 :: 0x57 :: 0xa7 :: 0x05 :: 0xa6 :: 0x2b :: 0x2a :: 0x1d :: 0x04 :: zr_27
def zr_25 : List UInt8 := 0x2e :: 0x2a :: 0x1d :: 0x05 :: 0x60 :: 0x2e :: 0xb6 :: 0x00 :: 0x23 :: 0x57 :: 0x2c :: 0x2a :: 0x1d :: 0x04 :: 0x60 :: 0x2e :: zr_26
def zr_24 : List UInt8 := 0x1d :: 0x05 :: 0x60 :: 0x2e :: 0xb6 :: 0x00 :: 0x22 :: 0x57 :: 0xa7 :: 0x05 :: 0xc7 :: 0x2b :: 0x2a :: 0x1d :: 0x04 :: 0x60 :: zr_25
def zr_23 : List UInt8 := 0x2a :: 0x1d :: 0x05 :: 0x60 :: 0x2e :: 0xb6 :: 0x00 :: 0x1f :: 0x57 :: 0x2c :: 0x2a :: 0x1d :: 0x04 :: 0x60 :: 0x2e :: 0x2a :: zr_24
def zr_22 : List UInt8 := 0x06 :: 0x60 :: 0x2e :: 0xb6 :: 0x00 :: 0x1e :: 0x57 :: 0xa7 :: 0x05 :: 0xe8 :: 0x2b :: 0x2a :: 0x1d :: 0x04 :: 0x60 :: 0x2e :: zr_23
def zr_21 : List UInt8 := 0x06 :: 0x60 :: 0x2e :: 0x2a :: 0x1d :: 0x07 :: 0x60 :: 0x2e :: 0x2a :: 0x1d :: 0x08 :: 0x60 :: 0x2e :: 0x2a :: 0x1d :: 0x10 :: zr_22
def zr_20 : List UInt8 := 0x00 :: 0x1a :: 0x57 :: 0x2c :: 0x2a :: 0x1d :: 0x04 :: 0x60 :: 0x2e :: 0x2a :: 0x1d :: 0x05 :: 0x60 :: 0x2e :: 0x2a :: 0x1d :: zr_21
def zr_19 : List UInt8 := 0x1d :: 0x07 :: 0x60 :: 0x2e :: 0x2a :: 0x1d :: 0x08 :: 0x60 :: 0x2e :: 0x2a :: 0x1d :: 0x10 :: 0x06 :: 0x60 :: 0x2e :: 0xb6 :: zr_20
def zr_18 : List UInt8 := 0x2a :: 0x1d :: 0x04 :: 0x60 :: 0x2e :: 0x2a :: 0x1d :: 0x05 :: 0x60 :: 0x2e :: 0x2a :: 0x1d :: 0x06 :: 0x60 :: 0x2e :: 0x2a :: zr_19
def zr_17 : List UInt8 := 0x04 :: 0x60 :: 0x2e :: 0x2a :: 0x1d :: 0x05 :: 0x60 :: 0x2e :: 0xb6 :: 0x00 :: 0x19 :: 0x57 :: 0xa7 :: 0x06 :: 0x33 :: 0x2b :: zr_18
def zr_16 : List UInt8 := 0x1d :: 0x04 :: 0x60 :: 0x2e :: 0x2a :: 0x1d :: 0x05 :: 0x60 :: 0x2e :: 0xb6 :: 0x00 :: 0x16 :: 0x57 :: 0x2c :: 0x2a :: 0x1d :: zr_17
def zr_15 : List UInt8 := 0x60 :: 0x2e :: 0x2a :: 0x1d :: 0x05 :: 0x60 :: 0x2e :: 0xb6 :: 0x00 :: 0x15 :: 0x57 :: 0xa7 :: 0x06 :: 0x54 :: 0x2b :: 0x2a :: zr_16
def zr_14 : List UInt8 := 0x04 :: 0x60 :: 0x2e :: 0x2a :: 0x1d :: 0x05 :: 0x60 :: 0x2e :: 0xb6 :: 0x00 :: 0x12 :: 0x57 :: 0x2c :: 0x2a :: 0x1d :: 0x04 :: zr_15
def zr_13 : List UInt8 := 0x2e :: 0x2a :: 0x1d :: 0x05 :: 0x60 :: 0x2e :: 0xb6 :: 0x00 :: 0x11 :: 0x57 :: 0xa7 :: 0x06 :: 0x75 :: 0x2b :: 0x2a :: 0x1d :: zr_14
def zr_12 : List UInt8 := 0x60 :: 0x2e :: 0x2a :: 0x1d :: 0x05 :: 0x60 :: 0x2e :: 0xb6 :: 0x00 :: 0x0d :: 0x57 :: 0x2c :: 0x2a :: 0x1d :: 0x04 :: 0x60 :: zr_13
def zr_11 : List UInt8 := 0x00 :: 0x00 :: 0x06 :: 0xfd :: 0x00 :: 0x00 :: 0x07 :: 0x0a :: 0x00 :: 0x00 :: 0x07 :: 0x17 :: 0x2b :: 0x2a :: 0x1d :: 0x04 :: zr_12
def zr_10 : List UInt8 := 0x00 :: 0x00 :: 0x06 :: 0x4d :: 0x00 :: 0x00 :: 0x06 :: 0xcc :: 0x00 :: 0x00 :: 0x06 :: 0xe3 :: 0x00 :: 0x00 :: 0x06 :: 0xf0 :: zr_11
def zr_9 : List UInt8 := 0x00 :: 0x00 :: 0x05 :: 0x57 :: 0x00 :: 0x00 :: 0x05 :: 0xea :: 0x00 :: 0x00 :: 0x06 :: 0x0b :: 0x00 :: 0x00 :: 0x06 :: 0x2c :: zr_10
def zr_8 : List UInt8 := 0x00 :: 0x00 :: 0x04 :: 0xa1 :: 0x00 :: 0x00 :: 0x04 :: 0xc2 :: 0x00 :: 0x00 :: 0x04 :: 0xd9 :: 0x00 :: 0x00 :: 0x05 :: 0x18 :: zr_9
def zr_7 : List UInt8 := 0x00 :: 0x00 :: 0x03 :: 0xff :: 0x00 :: 0x00 :: 0x04 :: 0x20 :: 0x00 :: 0x00 :: 0x04 :: 0x37 :: 0x00 :: 0x00 :: 0x04 :: 0x62 :: zr_8
def zr_6 : List UInt8 := 0x00 :: 0x00 :: 0x03 :: 0x33 :: 0x00 :: 0x00 :: 0x03 :: 0x40 :: 0x00 :: 0x00 :: 0x03 :: 0x61 :: 0x00 :: 0x00 :: 0x03 :: 0xc0 :: zr_7
def zr_5 : List UInt8 := 0x00 :: 0x00 :: 0x02 :: 0x01 :: 0x00 :: 0x00 :: 0x02 :: 0x78 :: 0x00 :: 0x00 :: 0x02 :: 0xb7 :: 0x00 :: 0x00 :: 0x03 :: 0x12 :: zr_6
def zr_4 : List UInt8 := 0x00 :: 0x00 :: 0x01 :: 0x49 :: 0x00 :: 0x00 :: 0x01 :: 0x6a :: 0x00 :: 0x00 :: 0x01 :: 0x8b :: 0x00 :: 0x00 :: 0x01 :: 0xb6 :: zr_5
def zr_3 : List UInt8 := 0x00 :: 0x00 :: 0x00 :: 0x9b :: 0x00 :: 0x00 :: 0x00 :: 0xbc :: 0x00 :: 0x00 :: 0x00 :: 0xdd :: 0x00 :: 0x00 :: 0x00 :: 0xfe :: zr_4
def zr_2 : List UInt8 := 0x7e :: 0xaa :: 0x00 :: 0x00 :: 0x00 :: 0x00 :: 0x07 :: 0x2e :: 0x00 :: 0x00 :: 0x00 :: 0x00 :: 0x00 :: 0x00 :: 0x00 :: 0x22 :: zr_3
def zr_1 : List UInt8 := 0x03 :: 0x3e :: 0x1d :: 0x2a :: 0xbe :: 0x10 :: 0x09 :: 0x64 :: 0xa3 :: 0x07 :: 0x3d :: 0x2a :: 0x1d :: 0x2e :: 0x10 :: 0x3f :: zr_2
def zr_0 : List UInt8 := 0xbb :: 0x00 :: 0x07 :: 0x59 :: 0xb7 :: 0x00 :: 0x09 :: 0x4c :: 0xbb :: 0x00 :: 0x0a :: 0x59 :: 0xb7 :: 0x00 :: 0x0c :: 0x4d :: zr_1
set_option maxRecDepth 100000 in
theorem zb_code : cL_law = .mk ⟨zr_0⟩ := rfl
theorem zt_0 (n : Nat) : zr_0[n]? = zr_0[n]? := rfl
theorem zt_1 (n : Nat) : zr_0[n + 16]? = zr_1[n]? := by
  rw [show n + 16 = (n + 16) + 0 by omega]
  exact (zt_0 (n + 16)).trans rfl
theorem zt_2 (n : Nat) : zr_0[n + 32]? = zr_2[n]? := by
  rw [show n + 32 = (n + 16) + 16 by omega]
  exact (zt_1 (n + 16)).trans rfl
theorem zt_3 (n : Nat) : zr_0[n + 48]? = zr_3[n]? := by
  rw [show n + 48 = (n + 16) + 32 by omega]
  exact (zt_2 (n + 16)).trans rfl
theorem zt_4 (n : Nat) : zr_0[n + 64]? = zr_4[n]? := by
  rw [show n + 64 = (n + 16) + 48 by omega]
  exact (zt_3 (n + 16)).trans rfl
theorem zt_5 (n : Nat) : zr_0[n + 80]? = zr_5[n]? := by
  rw [show n + 80 = (n + 16) + 64 by omega]
  exact (zt_4 (n + 16)).trans rfl
theorem zt_6 (n : Nat) : zr_0[n + 96]? = zr_6[n]? := by
  rw [show n + 96 = (n + 16) + 80 by omega]
  exact (zt_5 (n + 16)).trans rfl
theorem zt_7 (n : Nat) : zr_0[n + 112]? = zr_7[n]? := by
  rw [show n + 112 = (n + 16) + 96 by omega]
  exact (zt_6 (n + 16)).trans rfl
theorem zt_8 (n : Nat) : zr_0[n + 128]? = zr_8[n]? := by
  rw [show n + 128 = (n + 16) + 112 by omega]
  exact (zt_7 (n + 16)).trans rfl
theorem zt_9 (n : Nat) : zr_0[n + 144]? = zr_9[n]? := by
  rw [show n + 144 = (n + 16) + 128 by omega]
  exact (zt_8 (n + 16)).trans rfl
theorem zt_10 (n : Nat) : zr_0[n + 160]? = zr_10[n]? := by
  rw [show n + 160 = (n + 16) + 144 by omega]
  exact (zt_9 (n + 16)).trans rfl
theorem zt_11 (n : Nat) : zr_0[n + 176]? = zr_11[n]? := by
  rw [show n + 176 = (n + 16) + 160 by omega]
  exact (zt_10 (n + 16)).trans rfl
theorem zt_12 (n : Nat) : zr_0[n + 192]? = zr_12[n]? := by
  rw [show n + 192 = (n + 16) + 176 by omega]
  exact (zt_11 (n + 16)).trans rfl
theorem zt_13 (n : Nat) : zr_0[n + 208]? = zr_13[n]? := by
  rw [show n + 208 = (n + 16) + 192 by omega]
  exact (zt_12 (n + 16)).trans rfl
theorem zt_14 (n : Nat) : zr_0[n + 224]? = zr_14[n]? := by
  rw [show n + 224 = (n + 16) + 208 by omega]
  exact (zt_13 (n + 16)).trans rfl
theorem zt_15 (n : Nat) : zr_0[n + 240]? = zr_15[n]? := by
  rw [show n + 240 = (n + 16) + 224 by omega]
  exact (zt_14 (n + 16)).trans rfl
theorem zt_16 (n : Nat) : zr_0[n + 256]? = zr_16[n]? := by
  rw [show n + 256 = (n + 16) + 240 by omega]
  exact (zt_15 (n + 16)).trans rfl
theorem zt_17 (n : Nat) : zr_0[n + 272]? = zr_17[n]? := by
  rw [show n + 272 = (n + 16) + 256 by omega]
  exact (zt_16 (n + 16)).trans rfl
theorem zt_18 (n : Nat) : zr_0[n + 288]? = zr_18[n]? := by
  rw [show n + 288 = (n + 16) + 272 by omega]
  exact (zt_17 (n + 16)).trans rfl
theorem zt_19 (n : Nat) : zr_0[n + 304]? = zr_19[n]? := by
  rw [show n + 304 = (n + 16) + 288 by omega]
  exact (zt_18 (n + 16)).trans rfl
theorem zt_20 (n : Nat) : zr_0[n + 320]? = zr_20[n]? := by
  rw [show n + 320 = (n + 16) + 304 by omega]
  exact (zt_19 (n + 16)).trans rfl
theorem zt_21 (n : Nat) : zr_0[n + 336]? = zr_21[n]? := by
  rw [show n + 336 = (n + 16) + 320 by omega]
  exact (zt_20 (n + 16)).trans rfl
theorem zt_22 (n : Nat) : zr_0[n + 352]? = zr_22[n]? := by
  rw [show n + 352 = (n + 16) + 336 by omega]
  exact (zt_21 (n + 16)).trans rfl
theorem zt_23 (n : Nat) : zr_0[n + 368]? = zr_23[n]? := by
  rw [show n + 368 = (n + 16) + 352 by omega]
  exact (zt_22 (n + 16)).trans rfl
theorem zt_24 (n : Nat) : zr_0[n + 384]? = zr_24[n]? := by
  rw [show n + 384 = (n + 16) + 368 by omega]
  exact (zt_23 (n + 16)).trans rfl
theorem zt_25 (n : Nat) : zr_0[n + 400]? = zr_25[n]? := by
  rw [show n + 400 = (n + 16) + 384 by omega]
  exact (zt_24 (n + 16)).trans rfl
theorem zt_26 (n : Nat) : zr_0[n + 416]? = zr_26[n]? := by
  rw [show n + 416 = (n + 16) + 400 by omega]
  exact (zt_25 (n + 16)).trans rfl
theorem zt_27 (n : Nat) : zr_0[n + 432]? = zr_27[n]? := by
  rw [show n + 432 = (n + 16) + 416 by omega]
  exact (zt_26 (n + 16)).trans rfl
theorem zt_28 (n : Nat) : zr_0[n + 448]? = zr_28[n]? := by
  rw [show n + 448 = (n + 16) + 432 by omega]
  exact (zt_27 (n + 16)).trans rfl
theorem zt_29 (n : Nat) : zr_0[n + 464]? = zr_29[n]? := by
  rw [show n + 464 = (n + 16) + 448 by omega]
  exact (zt_28 (n + 16)).trans rfl
theorem zt_30 (n : Nat) : zr_0[n + 480]? = zr_30[n]? := by
  rw [show n + 480 = (n + 16) + 464 by omega]
  exact (zt_29 (n + 16)).trans rfl
theorem zt_31 (n : Nat) : zr_0[n + 496]? = zr_31[n]? := by
  rw [show n + 496 = (n + 16) + 480 by omega]
  exact (zt_30 (n + 16)).trans rfl
theorem zt_32 (n : Nat) : zr_0[n + 512]? = zr_32[n]? := by
  rw [show n + 512 = (n + 16) + 496 by omega]
  exact (zt_31 (n + 16)).trans rfl
theorem zt_33 (n : Nat) : zr_0[n + 528]? = zr_33[n]? := by
  rw [show n + 528 = (n + 16) + 512 by omega]
  exact (zt_32 (n + 16)).trans rfl
theorem zt_34 (n : Nat) : zr_0[n + 544]? = zr_34[n]? := by
  rw [show n + 544 = (n + 16) + 528 by omega]
  exact (zt_33 (n + 16)).trans rfl
theorem zt_35 (n : Nat) : zr_0[n + 560]? = zr_35[n]? := by
  rw [show n + 560 = (n + 16) + 544 by omega]
  exact (zt_34 (n + 16)).trans rfl
theorem zt_36 (n : Nat) : zr_0[n + 576]? = zr_36[n]? := by
  rw [show n + 576 = (n + 16) + 560 by omega]
  exact (zt_35 (n + 16)).trans rfl
theorem zt_37 (n : Nat) : zr_0[n + 592]? = zr_37[n]? := by
  rw [show n + 592 = (n + 16) + 576 by omega]
  exact (zt_36 (n + 16)).trans rfl
theorem zt_38 (n : Nat) : zr_0[n + 608]? = zr_38[n]? := by
  rw [show n + 608 = (n + 16) + 592 by omega]
  exact (zt_37 (n + 16)).trans rfl
theorem zt_39 (n : Nat) : zr_0[n + 624]? = zr_39[n]? := by
  rw [show n + 624 = (n + 16) + 608 by omega]
  exact (zt_38 (n + 16)).trans rfl
theorem zt_40 (n : Nat) : zr_0[n + 640]? = zr_40[n]? := by
  rw [show n + 640 = (n + 16) + 624 by omega]
  exact (zt_39 (n + 16)).trans rfl
theorem zt_41 (n : Nat) : zr_0[n + 656]? = zr_41[n]? := by
  rw [show n + 656 = (n + 16) + 640 by omega]
  exact (zt_40 (n + 16)).trans rfl
theorem zt_42 (n : Nat) : zr_0[n + 672]? = zr_42[n]? := by
  rw [show n + 672 = (n + 16) + 656 by omega]
  exact (zt_41 (n + 16)).trans rfl
theorem zt_43 (n : Nat) : zr_0[n + 688]? = zr_43[n]? := by
  rw [show n + 688 = (n + 16) + 672 by omega]
  exact (zt_42 (n + 16)).trans rfl
theorem zt_44 (n : Nat) : zr_0[n + 704]? = zr_44[n]? := by
  rw [show n + 704 = (n + 16) + 688 by omega]
  exact (zt_43 (n + 16)).trans rfl
theorem zt_45 (n : Nat) : zr_0[n + 720]? = zr_45[n]? := by
  rw [show n + 720 = (n + 16) + 704 by omega]
  exact (zt_44 (n + 16)).trans rfl
theorem zt_46 (n : Nat) : zr_0[n + 736]? = zr_46[n]? := by
  rw [show n + 736 = (n + 16) + 720 by omega]
  exact (zt_45 (n + 16)).trans rfl
theorem zt_47 (n : Nat) : zr_0[n + 752]? = zr_47[n]? := by
  rw [show n + 752 = (n + 16) + 736 by omega]
  exact (zt_46 (n + 16)).trans rfl
theorem zt_48 (n : Nat) : zr_0[n + 768]? = zr_48[n]? := by
  rw [show n + 768 = (n + 16) + 752 by omega]
  exact (zt_47 (n + 16)).trans rfl
theorem zt_49 (n : Nat) : zr_0[n + 784]? = zr_49[n]? := by
  rw [show n + 784 = (n + 16) + 768 by omega]
  exact (zt_48 (n + 16)).trans rfl
theorem zt_50 (n : Nat) : zr_0[n + 800]? = zr_50[n]? := by
  rw [show n + 800 = (n + 16) + 784 by omega]
  exact (zt_49 (n + 16)).trans rfl
theorem zt_51 (n : Nat) : zr_0[n + 816]? = zr_51[n]? := by
  rw [show n + 816 = (n + 16) + 800 by omega]
  exact (zt_50 (n + 16)).trans rfl
theorem zt_52 (n : Nat) : zr_0[n + 832]? = zr_52[n]? := by
  rw [show n + 832 = (n + 16) + 816 by omega]
  exact (zt_51 (n + 16)).trans rfl
theorem zt_53 (n : Nat) : zr_0[n + 848]? = zr_53[n]? := by
  rw [show n + 848 = (n + 16) + 832 by omega]
  exact (zt_52 (n + 16)).trans rfl
theorem zt_54 (n : Nat) : zr_0[n + 864]? = zr_54[n]? := by
  rw [show n + 864 = (n + 16) + 848 by omega]
  exact (zt_53 (n + 16)).trans rfl
theorem zt_55 (n : Nat) : zr_0[n + 880]? = zr_55[n]? := by
  rw [show n + 880 = (n + 16) + 864 by omega]
  exact (zt_54 (n + 16)).trans rfl
theorem zt_56 (n : Nat) : zr_0[n + 896]? = zr_56[n]? := by
  rw [show n + 896 = (n + 16) + 880 by omega]
  exact (zt_55 (n + 16)).trans rfl
theorem zt_57 (n : Nat) : zr_0[n + 912]? = zr_57[n]? := by
  rw [show n + 912 = (n + 16) + 896 by omega]
  exact (zt_56 (n + 16)).trans rfl
theorem zt_58 (n : Nat) : zr_0[n + 928]? = zr_58[n]? := by
  rw [show n + 928 = (n + 16) + 912 by omega]
  exact (zt_57 (n + 16)).trans rfl
theorem zt_59 (n : Nat) : zr_0[n + 944]? = zr_59[n]? := by
  rw [show n + 944 = (n + 16) + 928 by omega]
  exact (zt_58 (n + 16)).trans rfl
theorem zt_60 (n : Nat) : zr_0[n + 960]? = zr_60[n]? := by
  rw [show n + 960 = (n + 16) + 944 by omega]
  exact (zt_59 (n + 16)).trans rfl
theorem zt_61 (n : Nat) : zr_0[n + 976]? = zr_61[n]? := by
  rw [show n + 976 = (n + 16) + 960 by omega]
  exact (zt_60 (n + 16)).trans rfl
theorem zt_62 (n : Nat) : zr_0[n + 992]? = zr_62[n]? := by
  rw [show n + 992 = (n + 16) + 976 by omega]
  exact (zt_61 (n + 16)).trans rfl
theorem zt_63 (n : Nat) : zr_0[n + 1008]? = zr_63[n]? := by
  rw [show n + 1008 = (n + 16) + 992 by omega]
  exact (zt_62 (n + 16)).trans rfl
theorem zt_64 (n : Nat) : zr_0[n + 1024]? = zr_64[n]? := by
  rw [show n + 1024 = (n + 16) + 1008 by omega]
  exact (zt_63 (n + 16)).trans rfl
theorem zt_65 (n : Nat) : zr_0[n + 1040]? = zr_65[n]? := by
  rw [show n + 1040 = (n + 16) + 1024 by omega]
  exact (zt_64 (n + 16)).trans rfl
theorem zt_66 (n : Nat) : zr_0[n + 1056]? = zr_66[n]? := by
  rw [show n + 1056 = (n + 16) + 1040 by omega]
  exact (zt_65 (n + 16)).trans rfl
theorem zt_67 (n : Nat) : zr_0[n + 1072]? = zr_67[n]? := by
  rw [show n + 1072 = (n + 16) + 1056 by omega]
  exact (zt_66 (n + 16)).trans rfl
theorem zt_68 (n : Nat) : zr_0[n + 1088]? = zr_68[n]? := by
  rw [show n + 1088 = (n + 16) + 1072 by omega]
  exact (zt_67 (n + 16)).trans rfl
theorem zt_69 (n : Nat) : zr_0[n + 1104]? = zr_69[n]? := by
  rw [show n + 1104 = (n + 16) + 1088 by omega]
  exact (zt_68 (n + 16)).trans rfl
theorem zt_70 (n : Nat) : zr_0[n + 1120]? = zr_70[n]? := by
  rw [show n + 1120 = (n + 16) + 1104 by omega]
  exact (zt_69 (n + 16)).trans rfl
theorem zt_71 (n : Nat) : zr_0[n + 1136]? = zr_71[n]? := by
  rw [show n + 1136 = (n + 16) + 1120 by omega]
  exact (zt_70 (n + 16)).trans rfl
theorem zt_72 (n : Nat) : zr_0[n + 1152]? = zr_72[n]? := by
  rw [show n + 1152 = (n + 16) + 1136 by omega]
  exact (zt_71 (n + 16)).trans rfl
theorem zt_73 (n : Nat) : zr_0[n + 1168]? = zr_73[n]? := by
  rw [show n + 1168 = (n + 16) + 1152 by omega]
  exact (zt_72 (n + 16)).trans rfl
theorem zt_74 (n : Nat) : zr_0[n + 1184]? = zr_74[n]? := by
  rw [show n + 1184 = (n + 16) + 1168 by omega]
  exact (zt_73 (n + 16)).trans rfl
theorem zt_75 (n : Nat) : zr_0[n + 1200]? = zr_75[n]? := by
  rw [show n + 1200 = (n + 16) + 1184 by omega]
  exact (zt_74 (n + 16)).trans rfl
theorem zt_76 (n : Nat) : zr_0[n + 1216]? = zr_76[n]? := by
  rw [show n + 1216 = (n + 16) + 1200 by omega]
  exact (zt_75 (n + 16)).trans rfl
theorem zt_77 (n : Nat) : zr_0[n + 1232]? = zr_77[n]? := by
  rw [show n + 1232 = (n + 16) + 1216 by omega]
  exact (zt_76 (n + 16)).trans rfl
theorem zt_78 (n : Nat) : zr_0[n + 1248]? = zr_78[n]? := by
  rw [show n + 1248 = (n + 16) + 1232 by omega]
  exact (zt_77 (n + 16)).trans rfl
theorem zt_79 (n : Nat) : zr_0[n + 1264]? = zr_79[n]? := by
  rw [show n + 1264 = (n + 16) + 1248 by omega]
  exact (zt_78 (n + 16)).trans rfl
theorem zt_80 (n : Nat) : zr_0[n + 1280]? = zr_80[n]? := by
  rw [show n + 1280 = (n + 16) + 1264 by omega]
  exact (zt_79 (n + 16)).trans rfl
theorem zt_81 (n : Nat) : zr_0[n + 1296]? = zr_81[n]? := by
  rw [show n + 1296 = (n + 16) + 1280 by omega]
  exact (zt_80 (n + 16)).trans rfl
theorem zt_82 (n : Nat) : zr_0[n + 1312]? = zr_82[n]? := by
  rw [show n + 1312 = (n + 16) + 1296 by omega]
  exact (zt_81 (n + 16)).trans rfl
theorem zt_83 (n : Nat) : zr_0[n + 1328]? = zr_83[n]? := by
  rw [show n + 1328 = (n + 16) + 1312 by omega]
  exact (zt_82 (n + 16)).trans rfl
theorem zt_84 (n : Nat) : zr_0[n + 1344]? = zr_84[n]? := by
  rw [show n + 1344 = (n + 16) + 1328 by omega]
  exact (zt_83 (n + 16)).trans rfl
theorem zt_85 (n : Nat) : zr_0[n + 1360]? = zr_85[n]? := by
  rw [show n + 1360 = (n + 16) + 1344 by omega]
  exact (zt_84 (n + 16)).trans rfl
theorem zt_86 (n : Nat) : zr_0[n + 1376]? = zr_86[n]? := by
  rw [show n + 1376 = (n + 16) + 1360 by omega]
  exact (zt_85 (n + 16)).trans rfl
theorem zt_87 (n : Nat) : zr_0[n + 1392]? = zr_87[n]? := by
  rw [show n + 1392 = (n + 16) + 1376 by omega]
  exact (zt_86 (n + 16)).trans rfl
theorem zt_88 (n : Nat) : zr_0[n + 1408]? = zr_88[n]? := by
  rw [show n + 1408 = (n + 16) + 1392 by omega]
  exact (zt_87 (n + 16)).trans rfl
theorem zt_89 (n : Nat) : zr_0[n + 1424]? = zr_89[n]? := by
  rw [show n + 1424 = (n + 16) + 1408 by omega]
  exact (zt_88 (n + 16)).trans rfl
theorem zt_90 (n : Nat) : zr_0[n + 1440]? = zr_90[n]? := by
  rw [show n + 1440 = (n + 16) + 1424 by omega]
  exact (zt_89 (n + 16)).trans rfl
theorem zt_91 (n : Nat) : zr_0[n + 1456]? = zr_91[n]? := by
  rw [show n + 1456 = (n + 16) + 1440 by omega]
  exact (zt_90 (n + 16)).trans rfl
theorem zt_92 (n : Nat) : zr_0[n + 1472]? = zr_92[n]? := by
  rw [show n + 1472 = (n + 16) + 1456 by omega]
  exact (zt_91 (n + 16)).trans rfl
theorem zt_93 (n : Nat) : zr_0[n + 1488]? = zr_93[n]? := by
  rw [show n + 1488 = (n + 16) + 1472 by omega]
  exact (zt_92 (n + 16)).trans rfl
theorem zt_94 (n : Nat) : zr_0[n + 1504]? = zr_94[n]? := by
  rw [show n + 1504 = (n + 16) + 1488 by omega]
  exact (zt_93 (n + 16)).trans rfl
theorem zt_95 (n : Nat) : zr_0[n + 1520]? = zr_95[n]? := by
  rw [show n + 1520 = (n + 16) + 1504 by omega]
  exact (zt_94 (n + 16)).trans rfl
theorem zt_96 (n : Nat) : zr_0[n + 1536]? = zr_96[n]? := by
  rw [show n + 1536 = (n + 16) + 1520 by omega]
  exact (zt_95 (n + 16)).trans rfl
theorem zt_97 (n : Nat) : zr_0[n + 1552]? = zr_97[n]? := by
  rw [show n + 1552 = (n + 16) + 1536 by omega]
  exact (zt_96 (n + 16)).trans rfl
theorem zt_98 (n : Nat) : zr_0[n + 1568]? = zr_98[n]? := by
  rw [show n + 1568 = (n + 16) + 1552 by omega]
  exact (zt_97 (n + 16)).trans rfl
theorem zt_99 (n : Nat) : zr_0[n + 1584]? = zr_99[n]? := by
  rw [show n + 1584 = (n + 16) + 1568 by omega]
  exact (zt_98 (n + 16)).trans rfl
theorem zt_100 (n : Nat) : zr_0[n + 1600]? = zr_100[n]? := by
  rw [show n + 1600 = (n + 16) + 1584 by omega]
  exact (zt_99 (n + 16)).trans rfl
theorem zt_101 (n : Nat) : zr_0[n + 1616]? = zr_101[n]? := by
  rw [show n + 1616 = (n + 16) + 1600 by omega]
  exact (zt_100 (n + 16)).trans rfl
theorem zt_102 (n : Nat) : zr_0[n + 1632]? = zr_102[n]? := by
  rw [show n + 1632 = (n + 16) + 1616 by omega]
  exact (zt_101 (n + 16)).trans rfl
theorem zt_103 (n : Nat) : zr_0[n + 1648]? = zr_103[n]? := by
  rw [show n + 1648 = (n + 16) + 1632 by omega]
  exact (zt_102 (n + 16)).trans rfl
theorem zt_104 (n : Nat) : zr_0[n + 1664]? = zr_104[n]? := by
  rw [show n + 1664 = (n + 16) + 1648 by omega]
  exact (zt_103 (n + 16)).trans rfl
theorem zt_105 (n : Nat) : zr_0[n + 1680]? = zr_105[n]? := by
  rw [show n + 1680 = (n + 16) + 1664 by omega]
  exact (zt_104 (n + 16)).trans rfl
theorem zt_106 (n : Nat) : zr_0[n + 1696]? = zr_106[n]? := by
  rw [show n + 1696 = (n + 16) + 1680 by omega]
  exact (zt_105 (n + 16)).trans rfl
theorem zt_107 (n : Nat) : zr_0[n + 1712]? = zr_107[n]? := by
  rw [show n + 1712 = (n + 16) + 1696 by omega]
  exact (zt_106 (n + 16)).trans rfl
theorem zt_108 (n : Nat) : zr_0[n + 1728]? = zr_108[n]? := by
  rw [show n + 1728 = (n + 16) + 1712 by omega]
  exact (zt_107 (n + 16)).trans rfl
theorem zt_109 (n : Nat) : zr_0[n + 1744]? = zr_109[n]? := by
  rw [show n + 1744 = (n + 16) + 1728 by omega]
  exact (zt_108 (n + 16)).trans rfl
theorem zt_110 (n : Nat) : zr_0[n + 1760]? = zr_110[n]? := by
  rw [show n + 1760 = (n + 16) + 1744 by omega]
  exact (zt_109 (n + 16)).trans rfl
theorem zt_111 (n : Nat) : zr_0[n + 1776]? = zr_111[n]? := by
  rw [show n + 1776 = (n + 16) + 1760 by omega]
  exact (zt_110 (n + 16)).trans rfl
theorem zt_112 (n : Nat) : zr_0[n + 1792]? = zr_112[n]? := by
  rw [show n + 1792 = (n + 16) + 1776 by omega]
  exact (zt_111 (n + 16)).trans rfl
theorem zt_113 (n : Nat) : zr_0[n + 1808]? = zr_113[n]? := by
  rw [show n + 1808 = (n + 16) + 1792 by omega]
  exact (zt_112 (n + 16)).trans rfl
theorem zt_114 (n : Nat) : zr_0[n + 1824]? = zr_114[n]? := by
  rw [show n + 1824 = (n + 16) + 1808 by omega]
  exact (zt_113 (n + 16)).trans rfl
theorem zt_115 (n : Nat) : zr_0[n + 1840]? = zr_115[n]? := by
  rw [show n + 1840 = (n + 16) + 1824 by omega]
  exact (zt_114 (n + 16)).trans rfl
theorem zt_116 (n : Nat) : zr_0[n + 1856]? = zr_116[n]? := by
  rw [show n + 1856 = (n + 16) + 1840 by omega]
  exact (zt_115 (n + 16)).trans rfl
theorem zt_117 (n : Nat) : zr_0[n + 1872]? = zr_117[n]? := by
  rw [show n + 1872 = (n + 16) + 1856 by omega]
  exact (zt_116 (n + 16)).trans rfl
theorem zb_c0 (n : Nat) (x : UInt8) (h : zr_0[n]? = some x) : zb_at cL_law n x.toNat := by
  rw [zb_code]
  exact zb_li h
theorem zb_c1 (n : Nat) (x : UInt8) (h : zr_1[n]? = some x) : zb_at cL_law (n + 16) x.toNat := by
  rw [zb_code]
  exact zb_li ((zt_1 n).trans h)
theorem zb_c2 (n : Nat) (x : UInt8) (h : zr_2[n]? = some x) : zb_at cL_law (n + 32) x.toNat := by
  rw [zb_code]
  exact zb_li ((zt_2 n).trans h)
theorem zb_c3 (n : Nat) (x : UInt8) (h : zr_3[n]? = some x) : zb_at cL_law (n + 48) x.toNat := by
  rw [zb_code]
  exact zb_li ((zt_3 n).trans h)
theorem zb_c4 (n : Nat) (x : UInt8) (h : zr_4[n]? = some x) : zb_at cL_law (n + 64) x.toNat := by
  rw [zb_code]
  exact zb_li ((zt_4 n).trans h)
theorem zb_c5 (n : Nat) (x : UInt8) (h : zr_5[n]? = some x) : zb_at cL_law (n + 80) x.toNat := by
  rw [zb_code]
  exact zb_li ((zt_5 n).trans h)
theorem zb_c6 (n : Nat) (x : UInt8) (h : zr_6[n]? = some x) : zb_at cL_law (n + 96) x.toNat := by
  rw [zb_code]
  exact zb_li ((zt_6 n).trans h)
theorem zb_c7 (n : Nat) (x : UInt8) (h : zr_7[n]? = some x) : zb_at cL_law (n + 112) x.toNat := by
  rw [zb_code]
  exact zb_li ((zt_7 n).trans h)
theorem zb_c8 (n : Nat) (x : UInt8) (h : zr_8[n]? = some x) : zb_at cL_law (n + 128) x.toNat := by
  rw [zb_code]
  exact zb_li ((zt_8 n).trans h)
theorem zb_c9 (n : Nat) (x : UInt8) (h : zr_9[n]? = some x) : zb_at cL_law (n + 144) x.toNat := by
  rw [zb_code]
  exact zb_li ((zt_9 n).trans h)
theorem zb_c10 (n : Nat) (x : UInt8) (h : zr_10[n]? = some x) : zb_at cL_law (n + 160) x.toNat := by
  rw [zb_code]
  exact zb_li ((zt_10 n).trans h)
theorem zb_c11 (n : Nat) (x : UInt8) (h : zr_11[n]? = some x) : zb_at cL_law (n + 176) x.toNat := by
  rw [zb_code]
  exact zb_li ((zt_11 n).trans h)
theorem zb_c12 (n : Nat) (x : UInt8) (h : zr_12[n]? = some x) : zb_at cL_law (n + 192) x.toNat := by
  rw [zb_code]
  exact zb_li ((zt_12 n).trans h)
theorem zb_c13 (n : Nat) (x : UInt8) (h : zr_13[n]? = some x) : zb_at cL_law (n + 208) x.toNat := by
  rw [zb_code]
  exact zb_li ((zt_13 n).trans h)
theorem zb_c14 (n : Nat) (x : UInt8) (h : zr_14[n]? = some x) : zb_at cL_law (n + 224) x.toNat := by
  rw [zb_code]
  exact zb_li ((zt_14 n).trans h)
theorem zb_c15 (n : Nat) (x : UInt8) (h : zr_15[n]? = some x) : zb_at cL_law (n + 240) x.toNat := by
  rw [zb_code]
  exact zb_li ((zt_15 n).trans h)
theorem zb_c16 (n : Nat) (x : UInt8) (h : zr_16[n]? = some x) : zb_at cL_law (n + 256) x.toNat := by
  rw [zb_code]
  exact zb_li ((zt_16 n).trans h)
theorem zb_c17 (n : Nat) (x : UInt8) (h : zr_17[n]? = some x) : zb_at cL_law (n + 272) x.toNat := by
  rw [zb_code]
  exact zb_li ((zt_17 n).trans h)
theorem zb_c18 (n : Nat) (x : UInt8) (h : zr_18[n]? = some x) : zb_at cL_law (n + 288) x.toNat := by
  rw [zb_code]
  exact zb_li ((zt_18 n).trans h)
theorem zb_c19 (n : Nat) (x : UInt8) (h : zr_19[n]? = some x) : zb_at cL_law (n + 304) x.toNat := by
  rw [zb_code]
  exact zb_li ((zt_19 n).trans h)
theorem zb_c20 (n : Nat) (x : UInt8) (h : zr_20[n]? = some x) : zb_at cL_law (n + 320) x.toNat := by
  rw [zb_code]
  exact zb_li ((zt_20 n).trans h)
theorem zb_c21 (n : Nat) (x : UInt8) (h : zr_21[n]? = some x) : zb_at cL_law (n + 336) x.toNat := by
  rw [zb_code]
  exact zb_li ((zt_21 n).trans h)
theorem zb_c22 (n : Nat) (x : UInt8) (h : zr_22[n]? = some x) : zb_at cL_law (n + 352) x.toNat := by
  rw [zb_code]
  exact zb_li ((zt_22 n).trans h)
theorem zb_c23 (n : Nat) (x : UInt8) (h : zr_23[n]? = some x) : zb_at cL_law (n + 368) x.toNat := by
  rw [zb_code]
  exact zb_li ((zt_23 n).trans h)
theorem zb_c24 (n : Nat) (x : UInt8) (h : zr_24[n]? = some x) : zb_at cL_law (n + 384) x.toNat := by
  rw [zb_code]
  exact zb_li ((zt_24 n).trans h)
theorem zb_c25 (n : Nat) (x : UInt8) (h : zr_25[n]? = some x) : zb_at cL_law (n + 400) x.toNat := by
  rw [zb_code]
  exact zb_li ((zt_25 n).trans h)
theorem zb_c26 (n : Nat) (x : UInt8) (h : zr_26[n]? = some x) : zb_at cL_law (n + 416) x.toNat := by
  rw [zb_code]
  exact zb_li ((zt_26 n).trans h)
theorem zb_c27 (n : Nat) (x : UInt8) (h : zr_27[n]? = some x) : zb_at cL_law (n + 432) x.toNat := by
  rw [zb_code]
  exact zb_li ((zt_27 n).trans h)
theorem zb_c28 (n : Nat) (x : UInt8) (h : zr_28[n]? = some x) : zb_at cL_law (n + 448) x.toNat := by
  rw [zb_code]
  exact zb_li ((zt_28 n).trans h)
theorem zb_c29 (n : Nat) (x : UInt8) (h : zr_29[n]? = some x) : zb_at cL_law (n + 464) x.toNat := by
  rw [zb_code]
  exact zb_li ((zt_29 n).trans h)
theorem zb_c30 (n : Nat) (x : UInt8) (h : zr_30[n]? = some x) : zb_at cL_law (n + 480) x.toNat := by
  rw [zb_code]
  exact zb_li ((zt_30 n).trans h)
theorem zb_c31 (n : Nat) (x : UInt8) (h : zr_31[n]? = some x) : zb_at cL_law (n + 496) x.toNat := by
  rw [zb_code]
  exact zb_li ((zt_31 n).trans h)
theorem zb_c32 (n : Nat) (x : UInt8) (h : zr_32[n]? = some x) : zb_at cL_law (n + 512) x.toNat := by
  rw [zb_code]
  exact zb_li ((zt_32 n).trans h)
theorem zb_c33 (n : Nat) (x : UInt8) (h : zr_33[n]? = some x) : zb_at cL_law (n + 528) x.toNat := by
  rw [zb_code]
  exact zb_li ((zt_33 n).trans h)
theorem zb_c34 (n : Nat) (x : UInt8) (h : zr_34[n]? = some x) : zb_at cL_law (n + 544) x.toNat := by
  rw [zb_code]
  exact zb_li ((zt_34 n).trans h)
theorem zb_c35 (n : Nat) (x : UInt8) (h : zr_35[n]? = some x) : zb_at cL_law (n + 560) x.toNat := by
  rw [zb_code]
  exact zb_li ((zt_35 n).trans h)
theorem zb_c36 (n : Nat) (x : UInt8) (h : zr_36[n]? = some x) : zb_at cL_law (n + 576) x.toNat := by
  rw [zb_code]
  exact zb_li ((zt_36 n).trans h)
theorem zb_c37 (n : Nat) (x : UInt8) (h : zr_37[n]? = some x) : zb_at cL_law (n + 592) x.toNat := by
  rw [zb_code]
  exact zb_li ((zt_37 n).trans h)
theorem zb_c38 (n : Nat) (x : UInt8) (h : zr_38[n]? = some x) : zb_at cL_law (n + 608) x.toNat := by
  rw [zb_code]
  exact zb_li ((zt_38 n).trans h)
theorem zb_c39 (n : Nat) (x : UInt8) (h : zr_39[n]? = some x) : zb_at cL_law (n + 624) x.toNat := by
  rw [zb_code]
  exact zb_li ((zt_39 n).trans h)
theorem zb_c40 (n : Nat) (x : UInt8) (h : zr_40[n]? = some x) : zb_at cL_law (n + 640) x.toNat := by
  rw [zb_code]
  exact zb_li ((zt_40 n).trans h)
theorem zb_c41 (n : Nat) (x : UInt8) (h : zr_41[n]? = some x) : zb_at cL_law (n + 656) x.toNat := by
  rw [zb_code]
  exact zb_li ((zt_41 n).trans h)
theorem zb_c42 (n : Nat) (x : UInt8) (h : zr_42[n]? = some x) : zb_at cL_law (n + 672) x.toNat := by
  rw [zb_code]
  exact zb_li ((zt_42 n).trans h)
theorem zb_c43 (n : Nat) (x : UInt8) (h : zr_43[n]? = some x) : zb_at cL_law (n + 688) x.toNat := by
  rw [zb_code]
  exact zb_li ((zt_43 n).trans h)
theorem zb_c44 (n : Nat) (x : UInt8) (h : zr_44[n]? = some x) : zb_at cL_law (n + 704) x.toNat := by
  rw [zb_code]
  exact zb_li ((zt_44 n).trans h)
theorem zb_c45 (n : Nat) (x : UInt8) (h : zr_45[n]? = some x) : zb_at cL_law (n + 720) x.toNat := by
  rw [zb_code]
  exact zb_li ((zt_45 n).trans h)
theorem zb_c46 (n : Nat) (x : UInt8) (h : zr_46[n]? = some x) : zb_at cL_law (n + 736) x.toNat := by
  rw [zb_code]
  exact zb_li ((zt_46 n).trans h)
theorem zb_c47 (n : Nat) (x : UInt8) (h : zr_47[n]? = some x) : zb_at cL_law (n + 752) x.toNat := by
  rw [zb_code]
  exact zb_li ((zt_47 n).trans h)
theorem zb_c48 (n : Nat) (x : UInt8) (h : zr_48[n]? = some x) : zb_at cL_law (n + 768) x.toNat := by
  rw [zb_code]
  exact zb_li ((zt_48 n).trans h)
theorem zb_c49 (n : Nat) (x : UInt8) (h : zr_49[n]? = some x) : zb_at cL_law (n + 784) x.toNat := by
  rw [zb_code]
  exact zb_li ((zt_49 n).trans h)
theorem zb_c50 (n : Nat) (x : UInt8) (h : zr_50[n]? = some x) : zb_at cL_law (n + 800) x.toNat := by
  rw [zb_code]
  exact zb_li ((zt_50 n).trans h)
theorem zb_c51 (n : Nat) (x : UInt8) (h : zr_51[n]? = some x) : zb_at cL_law (n + 816) x.toNat := by
  rw [zb_code]
  exact zb_li ((zt_51 n).trans h)
theorem zb_c52 (n : Nat) (x : UInt8) (h : zr_52[n]? = some x) : zb_at cL_law (n + 832) x.toNat := by
  rw [zb_code]
  exact zb_li ((zt_52 n).trans h)
theorem zb_c53 (n : Nat) (x : UInt8) (h : zr_53[n]? = some x) : zb_at cL_law (n + 848) x.toNat := by
  rw [zb_code]
  exact zb_li ((zt_53 n).trans h)
theorem zb_c54 (n : Nat) (x : UInt8) (h : zr_54[n]? = some x) : zb_at cL_law (n + 864) x.toNat := by
  rw [zb_code]
  exact zb_li ((zt_54 n).trans h)
theorem zb_c55 (n : Nat) (x : UInt8) (h : zr_55[n]? = some x) : zb_at cL_law (n + 880) x.toNat := by
  rw [zb_code]
  exact zb_li ((zt_55 n).trans h)
theorem zb_c56 (n : Nat) (x : UInt8) (h : zr_56[n]? = some x) : zb_at cL_law (n + 896) x.toNat := by
  rw [zb_code]
  exact zb_li ((zt_56 n).trans h)
theorem zb_c57 (n : Nat) (x : UInt8) (h : zr_57[n]? = some x) : zb_at cL_law (n + 912) x.toNat := by
  rw [zb_code]
  exact zb_li ((zt_57 n).trans h)
theorem zb_c58 (n : Nat) (x : UInt8) (h : zr_58[n]? = some x) : zb_at cL_law (n + 928) x.toNat := by
  rw [zb_code]
  exact zb_li ((zt_58 n).trans h)
theorem zb_c59 (n : Nat) (x : UInt8) (h : zr_59[n]? = some x) : zb_at cL_law (n + 944) x.toNat := by
  rw [zb_code]
  exact zb_li ((zt_59 n).trans h)
theorem zb_c60 (n : Nat) (x : UInt8) (h : zr_60[n]? = some x) : zb_at cL_law (n + 960) x.toNat := by
  rw [zb_code]
  exact zb_li ((zt_60 n).trans h)
theorem zb_c61 (n : Nat) (x : UInt8) (h : zr_61[n]? = some x) : zb_at cL_law (n + 976) x.toNat := by
  rw [zb_code]
  exact zb_li ((zt_61 n).trans h)
theorem zb_c62 (n : Nat) (x : UInt8) (h : zr_62[n]? = some x) : zb_at cL_law (n + 992) x.toNat := by
  rw [zb_code]
  exact zb_li ((zt_62 n).trans h)
theorem zb_c63 (n : Nat) (x : UInt8) (h : zr_63[n]? = some x) : zb_at cL_law (n + 1008) x.toNat := by
  rw [zb_code]
  exact zb_li ((zt_63 n).trans h)
theorem zb_c64 (n : Nat) (x : UInt8) (h : zr_64[n]? = some x) : zb_at cL_law (n + 1024) x.toNat := by
  rw [zb_code]
  exact zb_li ((zt_64 n).trans h)
theorem zb_c65 (n : Nat) (x : UInt8) (h : zr_65[n]? = some x) : zb_at cL_law (n + 1040) x.toNat := by
  rw [zb_code]
  exact zb_li ((zt_65 n).trans h)
theorem zb_c66 (n : Nat) (x : UInt8) (h : zr_66[n]? = some x) : zb_at cL_law (n + 1056) x.toNat := by
  rw [zb_code]
  exact zb_li ((zt_66 n).trans h)
theorem zb_c67 (n : Nat) (x : UInt8) (h : zr_67[n]? = some x) : zb_at cL_law (n + 1072) x.toNat := by
  rw [zb_code]
  exact zb_li ((zt_67 n).trans h)
theorem zb_c68 (n : Nat) (x : UInt8) (h : zr_68[n]? = some x) : zb_at cL_law (n + 1088) x.toNat := by
  rw [zb_code]
  exact zb_li ((zt_68 n).trans h)
theorem zb_c69 (n : Nat) (x : UInt8) (h : zr_69[n]? = some x) : zb_at cL_law (n + 1104) x.toNat := by
  rw [zb_code]
  exact zb_li ((zt_69 n).trans h)
theorem zb_c70 (n : Nat) (x : UInt8) (h : zr_70[n]? = some x) : zb_at cL_law (n + 1120) x.toNat := by
  rw [zb_code]
  exact zb_li ((zt_70 n).trans h)
theorem zb_c71 (n : Nat) (x : UInt8) (h : zr_71[n]? = some x) : zb_at cL_law (n + 1136) x.toNat := by
  rw [zb_code]
  exact zb_li ((zt_71 n).trans h)
theorem zb_c72 (n : Nat) (x : UInt8) (h : zr_72[n]? = some x) : zb_at cL_law (n + 1152) x.toNat := by
  rw [zb_code]
  exact zb_li ((zt_72 n).trans h)
theorem zb_c73 (n : Nat) (x : UInt8) (h : zr_73[n]? = some x) : zb_at cL_law (n + 1168) x.toNat := by
  rw [zb_code]
  exact zb_li ((zt_73 n).trans h)
theorem zb_c74 (n : Nat) (x : UInt8) (h : zr_74[n]? = some x) : zb_at cL_law (n + 1184) x.toNat := by
  rw [zb_code]
  exact zb_li ((zt_74 n).trans h)
theorem zb_c75 (n : Nat) (x : UInt8) (h : zr_75[n]? = some x) : zb_at cL_law (n + 1200) x.toNat := by
  rw [zb_code]
  exact zb_li ((zt_75 n).trans h)
theorem zb_c76 (n : Nat) (x : UInt8) (h : zr_76[n]? = some x) : zb_at cL_law (n + 1216) x.toNat := by
  rw [zb_code]
  exact zb_li ((zt_76 n).trans h)
theorem zb_c77 (n : Nat) (x : UInt8) (h : zr_77[n]? = some x) : zb_at cL_law (n + 1232) x.toNat := by
  rw [zb_code]
  exact zb_li ((zt_77 n).trans h)
theorem zb_c78 (n : Nat) (x : UInt8) (h : zr_78[n]? = some x) : zb_at cL_law (n + 1248) x.toNat := by
  rw [zb_code]
  exact zb_li ((zt_78 n).trans h)
theorem zb_c79 (n : Nat) (x : UInt8) (h : zr_79[n]? = some x) : zb_at cL_law (n + 1264) x.toNat := by
  rw [zb_code]
  exact zb_li ((zt_79 n).trans h)
theorem zb_c80 (n : Nat) (x : UInt8) (h : zr_80[n]? = some x) : zb_at cL_law (n + 1280) x.toNat := by
  rw [zb_code]
  exact zb_li ((zt_80 n).trans h)
theorem zb_c81 (n : Nat) (x : UInt8) (h : zr_81[n]? = some x) : zb_at cL_law (n + 1296) x.toNat := by
  rw [zb_code]
  exact zb_li ((zt_81 n).trans h)
theorem zb_c82 (n : Nat) (x : UInt8) (h : zr_82[n]? = some x) : zb_at cL_law (n + 1312) x.toNat := by
  rw [zb_code]
  exact zb_li ((zt_82 n).trans h)
theorem zb_c83 (n : Nat) (x : UInt8) (h : zr_83[n]? = some x) : zb_at cL_law (n + 1328) x.toNat := by
  rw [zb_code]
  exact zb_li ((zt_83 n).trans h)
theorem zb_c84 (n : Nat) (x : UInt8) (h : zr_84[n]? = some x) : zb_at cL_law (n + 1344) x.toNat := by
  rw [zb_code]
  exact zb_li ((zt_84 n).trans h)
theorem zb_c85 (n : Nat) (x : UInt8) (h : zr_85[n]? = some x) : zb_at cL_law (n + 1360) x.toNat := by
  rw [zb_code]
  exact zb_li ((zt_85 n).trans h)
theorem zb_c86 (n : Nat) (x : UInt8) (h : zr_86[n]? = some x) : zb_at cL_law (n + 1376) x.toNat := by
  rw [zb_code]
  exact zb_li ((zt_86 n).trans h)
theorem zb_c87 (n : Nat) (x : UInt8) (h : zr_87[n]? = some x) : zb_at cL_law (n + 1392) x.toNat := by
  rw [zb_code]
  exact zb_li ((zt_87 n).trans h)
theorem zb_c88 (n : Nat) (x : UInt8) (h : zr_88[n]? = some x) : zb_at cL_law (n + 1408) x.toNat := by
  rw [zb_code]
  exact zb_li ((zt_88 n).trans h)
theorem zb_c89 (n : Nat) (x : UInt8) (h : zr_89[n]? = some x) : zb_at cL_law (n + 1424) x.toNat := by
  rw [zb_code]
  exact zb_li ((zt_89 n).trans h)
theorem zb_c90 (n : Nat) (x : UInt8) (h : zr_90[n]? = some x) : zb_at cL_law (n + 1440) x.toNat := by
  rw [zb_code]
  exact zb_li ((zt_90 n).trans h)
theorem zb_c91 (n : Nat) (x : UInt8) (h : zr_91[n]? = some x) : zb_at cL_law (n + 1456) x.toNat := by
  rw [zb_code]
  exact zb_li ((zt_91 n).trans h)
theorem zb_c92 (n : Nat) (x : UInt8) (h : zr_92[n]? = some x) : zb_at cL_law (n + 1472) x.toNat := by
  rw [zb_code]
  exact zb_li ((zt_92 n).trans h)
theorem zb_c93 (n : Nat) (x : UInt8) (h : zr_93[n]? = some x) : zb_at cL_law (n + 1488) x.toNat := by
  rw [zb_code]
  exact zb_li ((zt_93 n).trans h)
theorem zb_c94 (n : Nat) (x : UInt8) (h : zr_94[n]? = some x) : zb_at cL_law (n + 1504) x.toNat := by
  rw [zb_code]
  exact zb_li ((zt_94 n).trans h)
theorem zb_c95 (n : Nat) (x : UInt8) (h : zr_95[n]? = some x) : zb_at cL_law (n + 1520) x.toNat := by
  rw [zb_code]
  exact zb_li ((zt_95 n).trans h)
theorem zb_c96 (n : Nat) (x : UInt8) (h : zr_96[n]? = some x) : zb_at cL_law (n + 1536) x.toNat := by
  rw [zb_code]
  exact zb_li ((zt_96 n).trans h)
theorem zb_c97 (n : Nat) (x : UInt8) (h : zr_97[n]? = some x) : zb_at cL_law (n + 1552) x.toNat := by
  rw [zb_code]
  exact zb_li ((zt_97 n).trans h)
theorem zb_c98 (n : Nat) (x : UInt8) (h : zr_98[n]? = some x) : zb_at cL_law (n + 1568) x.toNat := by
  rw [zb_code]
  exact zb_li ((zt_98 n).trans h)
theorem zb_c99 (n : Nat) (x : UInt8) (h : zr_99[n]? = some x) : zb_at cL_law (n + 1584) x.toNat := by
  rw [zb_code]
  exact zb_li ((zt_99 n).trans h)
theorem zb_c100 (n : Nat) (x : UInt8) (h : zr_100[n]? = some x) : zb_at cL_law (n + 1600) x.toNat := by
  rw [zb_code]
  exact zb_li ((zt_100 n).trans h)
theorem zb_c101 (n : Nat) (x : UInt8) (h : zr_101[n]? = some x) : zb_at cL_law (n + 1616) x.toNat := by
  rw [zb_code]
  exact zb_li ((zt_101 n).trans h)
theorem zb_c102 (n : Nat) (x : UInt8) (h : zr_102[n]? = some x) : zb_at cL_law (n + 1632) x.toNat := by
  rw [zb_code]
  exact zb_li ((zt_102 n).trans h)
theorem zb_c103 (n : Nat) (x : UInt8) (h : zr_103[n]? = some x) : zb_at cL_law (n + 1648) x.toNat := by
  rw [zb_code]
  exact zb_li ((zt_103 n).trans h)
theorem zb_c104 (n : Nat) (x : UInt8) (h : zr_104[n]? = some x) : zb_at cL_law (n + 1664) x.toNat := by
  rw [zb_code]
  exact zb_li ((zt_104 n).trans h)
theorem zb_c105 (n : Nat) (x : UInt8) (h : zr_105[n]? = some x) : zb_at cL_law (n + 1680) x.toNat := by
  rw [zb_code]
  exact zb_li ((zt_105 n).trans h)
theorem zb_c106 (n : Nat) (x : UInt8) (h : zr_106[n]? = some x) : zb_at cL_law (n + 1696) x.toNat := by
  rw [zb_code]
  exact zb_li ((zt_106 n).trans h)
theorem zb_c107 (n : Nat) (x : UInt8) (h : zr_107[n]? = some x) : zb_at cL_law (n + 1712) x.toNat := by
  rw [zb_code]
  exact zb_li ((zt_107 n).trans h)
theorem zb_c108 (n : Nat) (x : UInt8) (h : zr_108[n]? = some x) : zb_at cL_law (n + 1728) x.toNat := by
  rw [zb_code]
  exact zb_li ((zt_108 n).trans h)
theorem zb_c109 (n : Nat) (x : UInt8) (h : zr_109[n]? = some x) : zb_at cL_law (n + 1744) x.toNat := by
  rw [zb_code]
  exact zb_li ((zt_109 n).trans h)
theorem zb_c110 (n : Nat) (x : UInt8) (h : zr_110[n]? = some x) : zb_at cL_law (n + 1760) x.toNat := by
  rw [zb_code]
  exact zb_li ((zt_110 n).trans h)
theorem zb_c111 (n : Nat) (x : UInt8) (h : zr_111[n]? = some x) : zb_at cL_law (n + 1776) x.toNat := by
  rw [zb_code]
  exact zb_li ((zt_111 n).trans h)
theorem zb_c112 (n : Nat) (x : UInt8) (h : zr_112[n]? = some x) : zb_at cL_law (n + 1792) x.toNat := by
  rw [zb_code]
  exact zb_li ((zt_112 n).trans h)
theorem zb_c113 (n : Nat) (x : UInt8) (h : zr_113[n]? = some x) : zb_at cL_law (n + 1808) x.toNat := by
  rw [zb_code]
  exact zb_li ((zt_113 n).trans h)
theorem zb_c114 (n : Nat) (x : UInt8) (h : zr_114[n]? = some x) : zb_at cL_law (n + 1824) x.toNat := by
  rw [zb_code]
  exact zb_li ((zt_114 n).trans h)
theorem zb_c115 (n : Nat) (x : UInt8) (h : zr_115[n]? = some x) : zb_at cL_law (n + 1840) x.toNat := by
  rw [zb_code]
  exact zb_li ((zt_115 n).trans h)
theorem zb_c116 (n : Nat) (x : UInt8) (h : zr_116[n]? = some x) : zb_at cL_law (n + 1856) x.toNat := by
  rw [zb_code]
  exact zb_li ((zt_116 n).trans h)
theorem zb_c117 (n : Nat) (x : UInt8) (h : zr_117[n]? = some x) : zb_at cL_law (n + 1872) x.toNat := by
  rw [zb_code]
  exact zb_li ((zt_117 n).trans h)
