/-- halving: what search finds -/
def sp_bs (R : Nat → Int64) (v : Int64) : Nat → Nat → Nat → Int32
  | 0, lo, _ => (-100) - nI lo
  | f + 1, lo, hh => if hh ≤ lo then (-100) - nI lo else (if R ((lo + (hh - 1)) / 2) = v then nI ((lo + (hh - 1)) / 2) else (if v ≤ R ((lo + (hh - 1)) / 2) then sp_bs R v f lo ((lo + (hh - 1)) / 2) else sp_bs R v f ((lo + (hh - 1)) / 2 + 1) hh))
def sp_rX (K : Int32) (bt : Nat → Int64) (s : Nat) : Nat → Int64 := fun i => fn_co_rank K (bt (s + i))
def sp_rM (K : Int32) (bt : Nat → Int64) (s : Nat) : Nat → Int64 := fun i => fn_cm_orderNumber K (bt (s + i))
theorem zl_hqf {R : Nat → Int64} {v : Int64} : ∀ (f f' lo hh : Nat), hh - lo ≤ f → hh - lo ≤ f' → sp_bs R v f lo hh = sp_bs R v f' lo hh
  | 0, 0, _, _, _, _ => rfl
  | 0, f' + 1, lo, hh, h, _ => by rw [sp_bs, sp_bs, if_pos (by omega)]
  | f + 1, 0, lo, hh, _, h => by rw [sp_bs, sp_bs, if_pos (by omega)]
  | f + 1, f' + 1, lo, hh, h, h' => by
    rw [sp_bs, sp_bs]
    by_cases c : hh ≤ lo
    · rw [if_pos c, if_pos c]
    · rw [if_neg c, if_neg c, zl_hqf f f' ((lo + (hh - 1)) / 2 + 1) hh (by omega) (by omega), zl_hqf f f' lo ((lo + (hh - 1)) / 2) (by omega) (by omega)]
theorem zl_hqS {R : Nat → Int64} {v : Int64} {lo K : Nat} (h : lo ≤ K) : sp_bs R v (K + 1 - lo) lo (K + 1) = (if R ((lo + K) / 2) = v then nI ((lo + K) / 2) else (if v ≤ R ((lo + K) / 2) then sp_bs R v ((lo + K) / 2 - lo) lo ((lo + K) / 2) else sp_bs R v (K + 1 - ((lo + K) / 2 + 1)) ((lo + K) / 2 + 1) (K + 1))) := by
  obtain ⟨f, e⟩ : ∃ f, K + 1 - lo = f + 1 := ⟨K - lo, by omega⟩
  rw [e, sp_bs, if_neg (by omega), Nat.add_sub_cancel, zl_hqf f (K + 1 - ((lo + K) / 2 + 1)) ((lo + K) / 2 + 1) (K + 1) (by omega) (by omega), zl_hqf f ((lo + K) / 2 - lo) lo ((lo + K) / 2) (by omega) (by omega)]
theorem zl_hqE {R : Nat → Int64} {v : Int64} {lo K : Nat} (h : lo ≤ K) (c : R ((lo + K) / 2) = v) : sp_bs R v (K + 1 - lo) lo (K + 1) = nI ((lo + K) / 2) := by
  rw [zl_hqS h, if_pos c]
theorem zl_hqG {R : Nat → Int64} {v : Int64} {lo K : Nat} (h : lo ≤ K) (c : ¬ R ((lo + K) / 2) = v) (d : v ≤ R ((lo + K) / 2)) : sp_bs R v (K + 1 - lo) lo (K + 1) = sp_bs R v ((lo + K) / 2 - lo) lo ((lo + K) / 2) := by
  rw [zl_hqS h, if_neg c, if_pos d]
theorem zl_hqL {R : Nat → Int64} {v : Int64} {lo K : Nat} (h : lo ≤ K) (c : ¬ R ((lo + K) / 2) = v) (d : ¬ v ≤ R ((lo + K) / 2)) : sp_bs R v (K + 1 - lo) lo (K + 1) = sp_bs R v (K + 1 - ((lo + K) / 2 + 1)) ((lo + K) / 2 + 1) (K + 1) := by
  rw [zl_hqS h, if_neg c, if_neg d]
theorem zl_hqN {R : Nat → Int64} {v : Int64} {lo hh : Nat} (h : hh ≤ lo) : sp_bs R v (hh - lo) lo hh = (-100) - nI lo := by
  rw [show hh - lo = 0 by omega, sp_bs]
theorem zl_hvN {hv : Int32} {hh lo : Nat} (e : hv = nI hh + (-1)) (h1 : hh ≤ 200) (h2 : lo ≤ 200) (h : hv < nI lo) : hh ≤ lo := by
  cases hh with
  | zero => exact Nat.zero_le _
  | succ K =>
    rw [e, pk_m1, nI_ltI (by omega) (by omega)] at h
    omega
theorem zl_hqC {R R' : Nat → Int64} {v : Int64} {n : Nat} (h : ∀ i, i < n → R i = R' i) : ∀ (f lo hh : Nat), hh ≤ n → sp_bs R v f lo hh = sp_bs R' v f lo hh
  | 0, _, _, _ => rfl
  | f + 1, lo, hh, hn => by
    rw [sp_bs, sp_bs]
    by_cases c : hh ≤ lo
    · rw [if_pos c, if_pos c]
    · rw [if_neg c, if_neg c, h _ (by omega), zl_hqC h f _ _ hn, zl_hqC h f lo ((lo + (hh - 1)) / 2) (by omega)]
theorem dg_X6_halve_0 : (decode cX6_halve 0 = .ok (.aload_n 0, 1)) ∧ (decode cX6_halve 1 = .ok (.getfield 9, 3)) ∧ (decode cX6_halve 4 = .ok (.iload_n 1, 1)) ∧ (decode cX6_halve 5 = .ok (.iaload, 1)) ∧ (decode cX6_halve 6 = .ok (.lload_n 2, 1)) ∧ (decode cX6_halve 7 = .ok (.invokestatic 75, 3)) ∧ (decode cX6_halve 10 = .ok (.lstore 4, 2)) ∧ (decode cX6_halve 12 = .ok (.iconst 0, 1)) ∧ (decode cX6_halve 13 = .ok (.istore 6, 2)) ∧ (decode cX6_halve 15 = .ok (.aload_n 0, 1)) ∧ (decode cX6_halve 16 = .ok (.getfield 24, 3)) ∧ (decode cX6_halve 19 = .ok (.iload_n 1, 1)) ∧ (decode cX6_halve 20 = .ok (.iaload, 1)) ∧ (decode cX6_halve 21 = .ok (.iconst 1, 1)) ∧ (decode cX6_halve 22 = .ok (.isub, 1)) ∧ (decode cX6_halve 23 = .ok (.istore 7, 2)) := by decide +kernel
theorem dX6_halve_0 : decode cX6_halve 0 = .ok (.aload_n 0, 1) := dg_X6_halve_0.1
theorem dX6_halve_1 : decode cX6_halve 1 = .ok (.getfield 9, 3) := dg_X6_halve_0.2.1
theorem dX6_halve_4 : decode cX6_halve 4 = .ok (.iload_n 1, 1) := dg_X6_halve_0.2.2.1
theorem dX6_halve_5 : decode cX6_halve 5 = .ok (.iaload, 1) := dg_X6_halve_0.2.2.2.1
theorem dX6_halve_6 : decode cX6_halve 6 = .ok (.lload_n 2, 1) := dg_X6_halve_0.2.2.2.2.1
theorem dX6_halve_7 : decode cX6_halve 7 = .ok (.invokestatic 75, 3) := dg_X6_halve_0.2.2.2.2.2.1
theorem dX6_halve_10 : decode cX6_halve 10 = .ok (.lstore 4, 2) := dg_X6_halve_0.2.2.2.2.2.2.1
theorem dX6_halve_12 : decode cX6_halve 12 = .ok (.iconst 0, 1) := dg_X6_halve_0.2.2.2.2.2.2.2.1
theorem dX6_halve_13 : decode cX6_halve 13 = .ok (.istore 6, 2) := dg_X6_halve_0.2.2.2.2.2.2.2.2.1
theorem dX6_halve_15 : decode cX6_halve 15 = .ok (.aload_n 0, 1) := dg_X6_halve_0.2.2.2.2.2.2.2.2.2.1
theorem dX6_halve_16 : decode cX6_halve 16 = .ok (.getfield 24, 3) := dg_X6_halve_0.2.2.2.2.2.2.2.2.2.2.1
theorem dX6_halve_19 : decode cX6_halve 19 = .ok (.iload_n 1, 1) := dg_X6_halve_0.2.2.2.2.2.2.2.2.2.2.2.1
theorem dX6_halve_20 : decode cX6_halve 20 = .ok (.iaload, 1) := dg_X6_halve_0.2.2.2.2.2.2.2.2.2.2.2.2.1
theorem dX6_halve_21 : decode cX6_halve 21 = .ok (.iconst 1, 1) := dg_X6_halve_0.2.2.2.2.2.2.2.2.2.2.2.2.2.1
theorem dX6_halve_22 : decode cX6_halve 22 = .ok (.isub, 1) := dg_X6_halve_0.2.2.2.2.2.2.2.2.2.2.2.2.2.2.1
theorem dX6_halve_23 : decode cX6_halve 23 = .ok (.istore 7, 2) := dg_X6_halve_0.2.2.2.2.2.2.2.2.2.2.2.2.2.2.2
theorem dg_X6_halve_25 : (decode cX6_halve 25 = .ok (.iload 6, 2)) ∧ (decode cX6_halve 27 = .ok (.iload 7, 2)) ∧ (decode cX6_halve 29 = .ok (.if_icmp .gt 74, 3)) ∧ (decode cX6_halve 32 = .ok (.iload 6, 2)) ∧ (decode cX6_halve 34 = .ok (.iload 7, 2)) ∧ (decode cX6_halve 36 = .ok (.iadd, 1)) ∧ (decode cX6_halve 37 = .ok (.iconst 2, 1)) ∧ (decode cX6_halve 38 = .ok (.idiv, 1)) ∧ (decode cX6_halve 39 = .ok (.istore 8, 2)) ∧ (decode cX6_halve 41 = .ok (.aload_n 0, 1)) ∧ (decode cX6_halve 42 = .ok (.getfield 9, 3)) ∧ (decode cX6_halve 45 = .ok (.iload_n 1, 1)) ∧ (decode cX6_halve 46 = .ok (.iaload, 1)) ∧ (decode cX6_halve 47 = .ok (.aload_n 0, 1)) ∧ (decode cX6_halve 48 = .ok (.getfield 27, 3)) ∧ (decode cX6_halve 51 = .ok (.aload_n 0, 1)) := by decide +kernel
theorem dX6_halve_25 : decode cX6_halve 25 = .ok (.iload 6, 2) := dg_X6_halve_25.1
theorem dX6_halve_27 : decode cX6_halve 27 = .ok (.iload 7, 2) := dg_X6_halve_25.2.1
theorem dX6_halve_29 : decode cX6_halve 29 = .ok (.if_icmp .gt 74, 3) := dg_X6_halve_25.2.2.1
theorem dX6_halve_32 : decode cX6_halve 32 = .ok (.iload 6, 2) := dg_X6_halve_25.2.2.2.1
theorem dX6_halve_34 : decode cX6_halve 34 = .ok (.iload 7, 2) := dg_X6_halve_25.2.2.2.2.1
theorem dX6_halve_36 : decode cX6_halve 36 = .ok (.iadd, 1) := dg_X6_halve_25.2.2.2.2.2.1
theorem dX6_halve_37 : decode cX6_halve 37 = .ok (.iconst 2, 1) := dg_X6_halve_25.2.2.2.2.2.2.1
theorem dX6_halve_38 : decode cX6_halve 38 = .ok (.idiv, 1) := dg_X6_halve_25.2.2.2.2.2.2.2.1
theorem dX6_halve_39 : decode cX6_halve 39 = .ok (.istore 8, 2) := dg_X6_halve_25.2.2.2.2.2.2.2.2.1
theorem dX6_halve_41 : decode cX6_halve 41 = .ok (.aload_n 0, 1) := dg_X6_halve_25.2.2.2.2.2.2.2.2.2.1
theorem dX6_halve_42 : decode cX6_halve 42 = .ok (.getfield 9, 3) := dg_X6_halve_25.2.2.2.2.2.2.2.2.2.2.1
theorem dX6_halve_45 : decode cX6_halve 45 = .ok (.iload_n 1, 1) := dg_X6_halve_25.2.2.2.2.2.2.2.2.2.2.2.1
theorem dX6_halve_46 : decode cX6_halve 46 = .ok (.iaload, 1) := dg_X6_halve_25.2.2.2.2.2.2.2.2.2.2.2.2.1
theorem dX6_halve_47 : decode cX6_halve 47 = .ok (.aload_n 0, 1) := dg_X6_halve_25.2.2.2.2.2.2.2.2.2.2.2.2.2.1
theorem dX6_halve_48 : decode cX6_halve 48 = .ok (.getfield 27, 3) := dg_X6_halve_25.2.2.2.2.2.2.2.2.2.2.2.2.2.2.1
theorem dX6_halve_51 : decode cX6_halve 51 = .ok (.aload_n 0, 1) := dg_X6_halve_25.2.2.2.2.2.2.2.2.2.2.2.2.2.2.2
theorem dg_X6_halve_52 : (decode cX6_halve 52 = .ok (.getfield 21, 3)) ∧ (decode cX6_halve 55 = .ok (.iload_n 1, 1)) ∧ (decode cX6_halve 56 = .ok (.iaload, 1)) ∧ (decode cX6_halve 57 = .ok (.iload 8, 2)) ∧ (decode cX6_halve 59 = .ok (.iadd, 1)) ∧ (decode cX6_halve 60 = .ok (.laload, 1)) ∧ (decode cX6_halve 61 = .ok (.invokestatic 75, 3)) ∧ (decode cX6_halve 64 = .ok (.lstore 9, 2)) ∧ (decode cX6_halve 66 = .ok (.lload 9, 2)) ∧ (decode cX6_halve 68 = .ok (.lload 4, 2)) ∧ (decode cX6_halve 70 = .ok (.lcmp, 1)) ∧ (decode cX6_halve 71 = .ok (.ifCond .ne 6, 3)) ∧ (decode cX6_halve 74 = .ok (.iload 8, 2)) ∧ (decode cX6_halve 76 = .ok (.ireturn, 1)) ∧ (decode cX6_halve 77 = .ok (.lload 9, 2)) ∧ (decode cX6_halve 79 = .ok (.lload 4, 2)) := by decide +kernel
theorem dX6_halve_52 : decode cX6_halve 52 = .ok (.getfield 21, 3) := dg_X6_halve_52.1
theorem dX6_halve_55 : decode cX6_halve 55 = .ok (.iload_n 1, 1) := dg_X6_halve_52.2.1
theorem dX6_halve_56 : decode cX6_halve 56 = .ok (.iaload, 1) := dg_X6_halve_52.2.2.1
theorem dX6_halve_57 : decode cX6_halve 57 = .ok (.iload 8, 2) := dg_X6_halve_52.2.2.2.1
theorem dX6_halve_59 : decode cX6_halve 59 = .ok (.iadd, 1) := dg_X6_halve_52.2.2.2.2.1
theorem dX6_halve_60 : decode cX6_halve 60 = .ok (.laload, 1) := dg_X6_halve_52.2.2.2.2.2.1
theorem dX6_halve_61 : decode cX6_halve 61 = .ok (.invokestatic 75, 3) := dg_X6_halve_52.2.2.2.2.2.2.1
theorem dX6_halve_64 : decode cX6_halve 64 = .ok (.lstore 9, 2) := dg_X6_halve_52.2.2.2.2.2.2.2.1
theorem dX6_halve_66 : decode cX6_halve 66 = .ok (.lload 9, 2) := dg_X6_halve_52.2.2.2.2.2.2.2.2.1
theorem dX6_halve_68 : decode cX6_halve 68 = .ok (.lload 4, 2) := dg_X6_halve_52.2.2.2.2.2.2.2.2.2.1
theorem dX6_halve_70 : decode cX6_halve 70 = .ok (.lcmp, 1) := dg_X6_halve_52.2.2.2.2.2.2.2.2.2.2.1
theorem dX6_halve_71 : decode cX6_halve 71 = .ok (.ifCond .ne 6, 3) := dg_X6_halve_52.2.2.2.2.2.2.2.2.2.2.2.1
theorem dX6_halve_74 : decode cX6_halve 74 = .ok (.iload 8, 2) := dg_X6_halve_52.2.2.2.2.2.2.2.2.2.2.2.2.1
theorem dX6_halve_76 : decode cX6_halve 76 = .ok (.ireturn, 1) := dg_X6_halve_52.2.2.2.2.2.2.2.2.2.2.2.2.2.1
theorem dX6_halve_77 : decode cX6_halve 77 = .ok (.lload 9, 2) := dg_X6_halve_52.2.2.2.2.2.2.2.2.2.2.2.2.2.2.1
theorem dX6_halve_79 : decode cX6_halve 79 = .ok (.lload 4, 2) := dg_X6_halve_52.2.2.2.2.2.2.2.2.2.2.2.2.2.2.2
theorem dg_X6_halve_81 : (decode cX6_halve 81 = .ok (.lcmp, 1)) ∧ (decode cX6_halve 82 = .ok (.ifCond .ge 12, 3)) ∧ (decode cX6_halve 85 = .ok (.iload 8, 2)) ∧ (decode cX6_halve 87 = .ok (.iconst 1, 1)) ∧ (decode cX6_halve 88 = .ok (.iadd, 1)) ∧ (decode cX6_halve 89 = .ok (.istore 6, 2)) ∧ (decode cX6_halve 91 = .ok (.goto 9, 3)) ∧ (decode cX6_halve 94 = .ok (.iload 8, 2)) ∧ (decode cX6_halve 96 = .ok (.iconst 1, 1)) ∧ (decode cX6_halve 97 = .ok (.isub, 1)) ∧ (decode cX6_halve 98 = .ok (.istore 7, 2)) ∧ (decode cX6_halve 100 = .ok (.goto (-75), 3)) ∧ (decode cX6_halve 103 = .ok (.bipush (-100), 2)) ∧ (decode cX6_halve 105 = .ok (.iload 6, 2)) ∧ (decode cX6_halve 107 = .ok (.isub, 1)) ∧ (decode cX6_halve 108 = .ok (.ireturn, 1)) := by decide +kernel
theorem dX6_halve_81 : decode cX6_halve 81 = .ok (.lcmp, 1) := dg_X6_halve_81.1
theorem dX6_halve_82 : decode cX6_halve 82 = .ok (.ifCond .ge 12, 3) := dg_X6_halve_81.2.1
theorem dX6_halve_85 : decode cX6_halve 85 = .ok (.iload 8, 2) := dg_X6_halve_81.2.2.1
theorem dX6_halve_87 : decode cX6_halve 87 = .ok (.iconst 1, 1) := dg_X6_halve_81.2.2.2.1
theorem dX6_halve_88 : decode cX6_halve 88 = .ok (.iadd, 1) := dg_X6_halve_81.2.2.2.2.1
theorem dX6_halve_89 : decode cX6_halve 89 = .ok (.istore 6, 2) := dg_X6_halve_81.2.2.2.2.2.1
theorem dX6_halve_91 : decode cX6_halve 91 = .ok (.goto 9, 3) := dg_X6_halve_81.2.2.2.2.2.2.1
theorem dX6_halve_94 : decode cX6_halve 94 = .ok (.iload 8, 2) := dg_X6_halve_81.2.2.2.2.2.2.2.1
theorem dX6_halve_96 : decode cX6_halve 96 = .ok (.iconst 1, 1) := dg_X6_halve_81.2.2.2.2.2.2.2.2.1
theorem dX6_halve_97 : decode cX6_halve 97 = .ok (.isub, 1) := dg_X6_halve_81.2.2.2.2.2.2.2.2.2.1
theorem dX6_halve_98 : decode cX6_halve 98 = .ok (.istore 7, 2) := dg_X6_halve_81.2.2.2.2.2.2.2.2.2.2.1
theorem dX6_halve_100 : decode cX6_halve 100 = .ok (.goto (-75), 3) := dg_X6_halve_81.2.2.2.2.2.2.2.2.2.2.2.1
theorem dX6_halve_103 : decode cX6_halve 103 = .ok (.bipush (-100), 2) := dg_X6_halve_81.2.2.2.2.2.2.2.2.2.2.2.2.1
theorem dX6_halve_105 : decode cX6_halve 105 = .ok (.iload 6, 2) := dg_X6_halve_81.2.2.2.2.2.2.2.2.2.2.2.2.2.1
theorem dX6_halve_107 : decode cX6_halve 107 = .ok (.isub, 1) := dg_X6_halve_81.2.2.2.2.2.2.2.2.2.2.2.2.2.2.1
theorem dX6_halve_108 : decode cX6_halve 108 = .ok (.ireturn, 1) := dg_X6_halve_81.2.2.2.2.2.2.2.2.2.2.2.2.2.2.2
abbrev rm_co_halve2 : Room := { frames := 1, cells := 0, slots := 0, locals := 22 }
abbrev po_co_halve2 (g : zz_G) (st : Nat) (kd : Nat) (dp : Nat) (cl : Nat) (sa : Nat) (ln : Nat) (bt : Nat) (pn : Nat) (bf : Nat) (na : Nat) (nu : Nat) (kdf : Nat → Int32) (saf : Nat → Int32) (lnf : Nat → Int32) (btf : Nat → Int64) (a : Nat) (sz : Nat) (lz : Nat) (x : Int64) (h_60 : a < 60) (e_s : saf a = nI sz) (e_l : lnf a = nI lz) (h_b : sz + lz ≤ 4000 ∧ lz ≤ 200) : Int32 → va_W → Prop := fun (r : Int32) (u : va_W) => (r = sp_bs (sp_rX (kdf a) btf sz) (fn_co_rank (kdf a) x) lz 0 lz) ∧ u = [cw_k5 st (nI na) (nI nu) kd dp cl sa ln bt pn bf, cw_i g kd 60 kdf, cw_i g sa 60 saf, cw_i g ln 60 lnf, cw_l g bt 4000 btf]
set_option maxHeartbeats 4000000 in
set_option maxRecDepth 100000 in
theorem co_halve2 (g : zz_G) (st : Nat) (kd : Nat) (dp : Nat) (cl : Nat) (sa : Nat) (ln : Nat) (bt : Nat) (pn : Nat) (bf : Nat) (na : Nat) (nu : Nat) (kdf : Nat → Int32) (saf : Nat → Int32) (lnf : Nat → Int32) (btf : Nat → Int64) (a : Nat) (sz : Nat) (lz : Nat) (x : Int64) (h_60 : a < 60) (e_s : saf a = nI sz) (e_l : lnf a = nI lz) (h_b : sz + lz ≤ 4000 ∧ lz ≤ 200) : zz_I g yX6_halve (.code yX6_halve cX6_halve 11 (some .int)) rm_co_halve2 [.ref st, .int (nI a), .long x] [cw_k5 st (nI na) (nI nu) kd dp cl sa ln bt pn bf, cw_i g kd 60 kdf, cw_i g sa 60 saf, cw_i g ln 60 lnf, cw_l g bt 4000 btf] (po_co_halve2 g st kd dp cl sa ln bt pn bf na nu kdf saf lnf btf a sz lz x h_60 e_s e_l h_b) := by
  refine zz_I.intro (own := RX6) (cc := cX6_halve) (nL := 11) (by decide) rfl (Nat.le_of_ble_eq_true rfl) ?_
  intro p l e s m args below meth c A H locs ls hC hnm hs hZ hl
  obtain ⟨hx, hb, hml, hown, hts, hr, hlocks, hK⟩ := id hC
  have hl : lv_has ls 11 [(0, .ref st), (1, .int (nI a)), (2, .long x)] := hl
  have hZ : zz_Z g A s.heap [cw_k5 st (nI na) (nI nu) kd dp cl sa ln bt pn bf, cw_i g kd 60 kdf, cw_i g sa 60 saf, cw_i g ln 60 lnf, cw_l g bt 4000 btf] H locs := hZ
  refine lv_aload_n hx hb dX6_halve_0 rfl (lv_at hl 0 rfl) ?_
  refine zz_get hC hZ 0 rfl zf_X6_9 rfl dX6_halve_1 ?_
  refine lv_iload_n hx hb dX6_halve_4 rfl (lv_at hl 1 rfl) ?_
  have bd1 : a < 60 := by omega
  refine zz_ialdn hC hZ 1 rfl bd1 (by decide) dX6_halve_5 ?_
  refine lv_lload_n hx hb dX6_halve_6 rfl (lv_at hl 2 rfl) ?_
  refine zz_lS (As := [.int (kdf a), .long x]) (wc := []) (wr := [cw_k5 st (nI na) (nI nu) kd dp cl sa ln bt pn bf, cw_i g kd 60 kdf, cw_i g sa 60 saf, cw_i g ln 60 lnf, cw_l g bt 4000 btf]) (rest := []) hC hZ hs hl zc_X6_75 (co_rank g (kdf a) x) [] [0, 1, 2, 3, 4] rfl rfl (by decide +kernel) rfl rfl (Nat.le_of_ble_eq_true rfl) ⟨⟨Nat.le_of_ble_eq_true rfl, Nat.le_of_ble_eq_true rfl⟩, Nat.le_of_ble_eq_true rfl, Nat.le_of_ble_eq_true rfl⟩ dX6_halve_7 (fun r2 u3 H locs hp hZ => ?_)
  obtain ⟨rfl, rfl⟩ := hp
  have hZ : zz_Z g A s.heap [cw_k5 st (nI na) (nI nu) kd dp cl sa ln bt pn bf, cw_i g kd 60 kdf, cw_i g sa 60 saf, cw_i g ln 60 lnf, cw_l g bt 4000 btf] H locs := hZ
  refine lv_lstore (lv' := [(4, .long (fn_co_rank (kdf a) x)), (0, .ref st), (1, .int (nI a)), (2, .long x)]) hx hb dX6_halve_10 hl (by decide) rfl (fun ls hl => ?_)
  refine lv_iconst (v := 0) hx hb dX6_halve_12 (by decide) ?_
  refine lv_istore (lv' := [(6, .int 0), (4, .long (fn_co_rank (kdf a) x)), (0, .ref st), (1, .int (nI a)), (2, .long x)]) hx hb dX6_halve_13 hl (by decide) rfl (fun ls hl => ?_)
  refine lv_aload_n hx hb dX6_halve_15 rfl (lv_at hl 2 rfl) ?_
  refine zz_get hC hZ 0 rfl zf_X6_24 rfl dX6_halve_16 ?_
  refine lv_iload_n hx hb dX6_halve_19 rfl (lv_at hl 3 rfl) ?_
  refine zz_ialdn hC hZ 3 rfl bd1 (by decide) dX6_halve_20 ?_
  refine zz_topi (v := nI lz) (e_l) ?_
  refine lv_iconst (v := 1) hx hb dX6_halve_21 (by decide) ?_
  refine lv_isub hx hb dX6_halve_22 ?_
  refine lv_istore (lv' := [(7, .int ((nI lz) - 1)), (6, .int 0), (4, .long (fn_co_rank (kdf a) x)), (0, .ref st), (1, .int (nI a)), (2, .long x)]) hx hb dX6_halve_23 hl (by decide) rfl (fun ls hl => ?_)
  have LP4 : ∀ (N : Nat) (lo : Nat) (hh : Nat) (hv : Int32) (H : Heap) (locs : List Loc) (ls : Array Slot), (hv = nI hh + (-1)) → (lo ≤ hh) → (hh ≤ lz) → (sp_bs (sp_rX (kdf a) btf sz) (fn_co_rank (kdf a) x) lz 0 lz = sp_bs (sp_rX (kdf a) btf sz) (fn_co_rank (kdf a) x) (hh - lo) lo hh) → (hh - lo) < N → zz_Z g A s.heap [cw_k5 st (nI na) (nI nu) kd dp cl sa ln bt pn bf, cw_i g kd 60 kdf, cw_i g sa 60 saf, cw_i g ln 60 lnf, cw_l g bt 4000 btf] H locs → lv_has ls 11 [(7, .int hv), (6, .int (nI lo)), (4, .long (fn_co_rank (kdf a) x)), (0, .ref st), (1, .int (nI a)), (2, .long x)] → W p l e rm_co_halve2 s m args below meth c H locs 0 0 (zz_QI below g args s A rm_co_halve2.cells rm_co_halve2.slots (po_co_halve2 g st kd dp cl sa ln bt pn bf na nu kdf saf lnf btf a sz lz x h_60 e_s e_l h_b)) (F0 m 25 ls []) := by
    intro N
    induction N with
    | zero =>
      intro lo hh hv H locs ls ehv hlo hhl hbs hN
      exact absurd hN (Nat.not_lt_zero _)
    | succ N ih =>
      intro lo hh hv H locs ls ehv hlo hhl hbs hN hZ hl
      refine lv_iload hx hb dX6_halve_25 (lv_at hl 1 rfl) ?_
      refine lv_iload hx hb dX6_halve_27 (lv_at hl 0 rfl) ?_
      refine lv_icmp_gt (tgt := 103) hx hb dX6_halve_29 (by decide) (fun c5 => ?_) (fun c5 => ?_)
      · refine lv_bipush (v := -100) hx hb dX6_halve_103 (by decide) ?_
        refine lv_iload hx hb dX6_halve_105 (lv_at hl 1 rfl) ?_
        refine lv_isub hx hb dX6_halve_107 ?_
        exact zz_iret hC hZ (⟨(hbs.trans (zl_hqN (zl_hvN ehv (by omega) (by omega) c5))).symm, rfl⟩) (Nat.le_of_ble_eq_true rfl) (Nat.le_of_ble_eq_true rfl) dX6_halve_108
      · obtain ⟨K, rfl, hK1⟩ := zl_hv ehv (by omega) (by omega) c5
        have hl : lv_has ls 11 [(7, .int (nI K)), (6, .int (nI lo)), (4, .long (fn_co_rank (kdf a) x)), (0, .ref st), (1, .int (nI a)), (2, .long x)] := by rw [← (ehv.trans (pk_m1 K))]; exact hl
        refine lv_iload hx hb dX6_halve_32 (lv_at hl 1 rfl) ?_
        refine lv_iload hx hb dX6_halve_34 (lv_at hl 0 rfl) ?_
        refine lv_iadd hx hb dX6_halve_36 ?_
        refine zz_topi (v := nI (lo + K)) (nI_add _ _) ?_
        refine lv_iconst (v := 2) hx hb dX6_halve_37 (by decide) ?_
        refine lv_idiv hx hb dX6_halve_38 (by decide) ?_
        refine zz_topi (v := nI ((lo + K) / 2)) (zl_div2 (by omega)) ?_
        refine lv_istore (lv' := [(8, .int (nI ((lo + K) / 2))), (7, .int (nI K)), (6, .int (nI lo)), (4, .long (fn_co_rank (kdf a) x)), (0, .ref st), (1, .int (nI a)), (2, .long x)]) hx hb dX6_halve_39 hl (by decide) rfl (fun ls hl => ?_)
        refine lv_aload_n hx hb dX6_halve_41 rfl (lv_at hl 4 rfl) ?_
        refine zz_get hC hZ 0 rfl zf_X6_9 rfl dX6_halve_42 ?_
        refine lv_iload_n hx hb dX6_halve_45 rfl (lv_at hl 5 rfl) ?_
        refine zz_ialdn hC hZ 1 rfl bd1 (by decide) dX6_halve_46 ?_
        refine lv_aload_n hx hb dX6_halve_47 rfl (lv_at hl 4 rfl) ?_
        refine zz_get hC hZ 0 rfl zf_X6_27 rfl dX6_halve_48 ?_
        refine lv_aload_n hx hb dX6_halve_51 rfl (lv_at hl 4 rfl) ?_
        refine zz_get hC hZ 0 rfl zf_X6_21 rfl dX6_halve_52 ?_
        refine lv_iload_n hx hb dX6_halve_55 rfl (lv_at hl 5 rfl) ?_
        refine zz_ialdn hC hZ 2 rfl bd1 (by decide) dX6_halve_56 ?_
        refine zz_topi (v := nI sz) (e_s) ?_
        refine lv_iload hx hb dX6_halve_57 (lv_at hl 0 rfl) ?_
        refine lv_iadd hx hb dX6_halve_59 ?_
        refine zz_topi (v := nI (sz + ((lo + K) / 2))) (nI_add _ _) ?_
        have bd6 : (sz + ((lo + K) / 2)) < 4000 := by omega
        refine zz_laldn hC hZ 4 rfl bd6 (by decide) dX6_halve_60 ?_
        refine zz_lS (As := [.int (kdf a), .long (btf (sz + ((lo + K) / 2)))]) (wc := []) (wr := [cw_k5 st (nI na) (nI nu) kd dp cl sa ln bt pn bf, cw_i g kd 60 kdf, cw_i g sa 60 saf, cw_i g ln 60 lnf, cw_l g bt 4000 btf]) (rest := []) hC hZ hs hl zc_X6_75 (co_rank g (kdf a) (btf (sz + ((lo + K) / 2)))) [] [0, 1, 2, 3, 4] rfl rfl (by decide +kernel) rfl rfl (Nat.le_of_ble_eq_true rfl) ⟨⟨Nat.le_of_ble_eq_true rfl, Nat.le_of_ble_eq_true rfl⟩, Nat.le_of_ble_eq_true rfl, Nat.le_of_ble_eq_true rfl⟩ dX6_halve_61 (fun r7 u8 H locs hp hZ => ?_)
        obtain ⟨rfl, rfl⟩ := hp
        have hZ : zz_Z g A s.heap [cw_k5 st (nI na) (nI nu) kd dp cl sa ln bt pn bf, cw_i g kd 60 kdf, cw_i g sa 60 saf, cw_i g ln 60 lnf, cw_l g bt 4000 btf] H locs := hZ
        refine lv_lstore (lv' := [(9, .long (fn_co_rank (kdf a) (btf (sz + ((lo + K) / 2))))), (8, .int (nI ((lo + K) / 2))), (7, .int (nI K)), (6, .int (nI lo)), (4, .long (fn_co_rank (kdf a) x)), (0, .ref st), (1, .int (nI a)), (2, .long x)]) hx hb dX6_halve_64 hl (by decide) rfl (fun ls hl => ?_)
        refine lv_lload hx hb dX6_halve_66 (lv_at hl 0 rfl) ?_
        refine lv_lload hx hb dX6_halve_68 (lv_at hl 4 rfl) ?_
        refine zz_lcmp_ne (tgt := 77) hC dX6_halve_70 dX6_halve_71 (by decide) (fun c9 => ?_) (fun c9 => ?_)
        · refine lv_lload hx hb dX6_halve_77 (lv_at hl 0 rfl) ?_
          refine lv_lload hx hb dX6_halve_79 (lv_at hl 4 rfl) ?_
          refine zz_lcmp_ge (tgt := 94) hC dX6_halve_81 dX6_halve_82 (by decide) (fun c10 => ?_) (fun c10 => ?_)
          · refine lv_iload hx hb dX6_halve_94 (lv_at hl 1 rfl) ?_
            refine lv_iconst (v := 1) hx hb dX6_halve_96 (by decide) ?_
            refine lv_isub hx hb dX6_halve_97 ?_
            refine lv_istore (lv' := [(7, .int ((nI ((lo + K) / 2)) - 1)), (9, .long (fn_co_rank (kdf a) (btf (sz + ((lo + K) / 2))))), (8, .int (nI ((lo + K) / 2))), (6, .int (nI lo)), (4, .long (fn_co_rank (kdf a) x)), (0, .ref st), (1, .int (nI a)), (2, .long x)]) hx hb dX6_halve_98 hl (by decide) rfl (fun ls hl => ?_)
            refine lv_goto (tgt := 25) hx hb dX6_halve_100 (by decide) ?_
            exact ih lo ((lo + K) / 2) ((nI ((lo + K) / 2)) - 1) H locs ls (zl_sub1 _) (by omega) (by omega) (hbs.trans (zl_hqG (R := sp_rX (kdf a) btf sz) (v := fn_co_rank (kdf a) x) hK1 c9 c10)) (by omega) hZ (lv_sub hl [0, 3, 4, 5, 6, 7] rfl)
          · refine lv_iload hx hb dX6_halve_85 (lv_at hl 1 rfl) ?_
            refine lv_iconst (v := 1) hx hb dX6_halve_87 (by decide) ?_
            refine lv_iadd hx hb dX6_halve_88 ?_
            refine zz_topi (v := nI (((lo + K) / 2) + 1)) (nI_1 _) ?_
            refine lv_istore (lv' := [(6, .int (nI (((lo + K) / 2) + 1))), (9, .long (fn_co_rank (kdf a) (btf (sz + ((lo + K) / 2))))), (8, .int (nI ((lo + K) / 2))), (7, .int (nI K)), (4, .long (fn_co_rank (kdf a) x)), (0, .ref st), (1, .int (nI a)), (2, .long x)]) hx hb dX6_halve_89 hl (by decide) rfl (fun ls hl => ?_)
            refine lv_goto (tgt := 100) hx hb dX6_halve_91 (by decide) ?_
            refine lv_goto (tgt := 25) hx hb dX6_halve_100 (by decide) ?_
            exact ih (((lo + K) / 2) + 1) (K + 1) (nI K) H locs ls ((pk_m1 K).symm) (by omega) (by omega) (hbs.trans (zl_hqL (R := sp_rX (kdf a) btf sz) (v := fn_co_rank (kdf a) x) hK1 c9 c10)) (by omega) hZ (lv_sub hl [3, 0, 4, 5, 6, 7] rfl)
        · refine lv_iload hx hb dX6_halve_74 (lv_at hl 1 rfl) ?_
          exact zz_iret hC hZ (⟨(hbs.trans (zl_hqE (R := sp_rX (kdf a) btf sz) (v := fn_co_rank (kdf a) x) hK1 c9)).symm, rfl⟩) (Nat.le_of_ble_eq_true rfl) (Nat.le_of_ble_eq_true rfl) dX6_halve_76
  exact LP4 _ 0 lz ((nI lz) - 1) H locs ls (zl_sub1 _) (by omega) (by omega) (rfl) (Nat.lt_succ_self _) hZ (lv_sub hl [0, 1, 2, 3, 4, 5] rfl)
theorem dg_X7_search_0 : (decode cX7_search 0 = .ok (.aload_n 0, 1)) ∧ (decode cX7_search 1 = .ok (.getfield 10, 3)) ∧ (decode cX7_search 4 = .ok (.iload_n 1, 1)) ∧ (decode cX7_search 5 = .ok (.invokevirtual 73, 3)) ∧ (decode cX7_search 8 = .ok (.ifCond .ne 9, 3)) ∧ (decode cX7_search 11 = .ok (.aload_n 0, 1)) ∧ (decode cX7_search 12 = .ok (.iconst 5, 1)) ∧ (decode cX7_search 13 = .ok (.invokevirtual 65, 3)) ∧ (decode cX7_search 16 = .ok (.ireturn, 1)) ∧ (decode cX7_search 17 = .ok (.aload_n 0, 1)) ∧ (decode cX7_search 18 = .ok (.getfield 10, 3)) ∧ (decode cX7_search 21 = .ok (.getfield 80, 3)) ∧ (decode cX7_search 24 = .ok (.iload_n 1, 1)) ∧ (decode cX7_search 25 = .ok (.iaload, 1)) ∧ (decode cX7_search 26 = .ok (.istore 4, 2)) ∧ (decode cX7_search 28 = .ok (.iload 4, 2)) := by decide +kernel
theorem dX7_search_0 : decode cX7_search 0 = .ok (.aload_n 0, 1) := dg_X7_search_0.1
theorem dX7_search_1 : decode cX7_search 1 = .ok (.getfield 10, 3) := dg_X7_search_0.2.1
theorem dX7_search_4 : decode cX7_search 4 = .ok (.iload_n 1, 1) := dg_X7_search_0.2.2.1
theorem dX7_search_5 : decode cX7_search 5 = .ok (.invokevirtual 73, 3) := dg_X7_search_0.2.2.2.1
theorem dX7_search_8 : decode cX7_search 8 = .ok (.ifCond .ne 9, 3) := dg_X7_search_0.2.2.2.2.1
theorem dX7_search_11 : decode cX7_search 11 = .ok (.aload_n 0, 1) := dg_X7_search_0.2.2.2.2.2.1
theorem dX7_search_12 : decode cX7_search 12 = .ok (.iconst 5, 1) := dg_X7_search_0.2.2.2.2.2.2.1
theorem dX7_search_13 : decode cX7_search 13 = .ok (.invokevirtual 65, 3) := dg_X7_search_0.2.2.2.2.2.2.2.1
theorem dX7_search_16 : decode cX7_search 16 = .ok (.ireturn, 1) := dg_X7_search_0.2.2.2.2.2.2.2.2.1
theorem dX7_search_17 : decode cX7_search 17 = .ok (.aload_n 0, 1) := dg_X7_search_0.2.2.2.2.2.2.2.2.2.1
theorem dX7_search_18 : decode cX7_search 18 = .ok (.getfield 10, 3) := dg_X7_search_0.2.2.2.2.2.2.2.2.2.2.1
theorem dX7_search_21 : decode cX7_search 21 = .ok (.getfield 80, 3) := dg_X7_search_0.2.2.2.2.2.2.2.2.2.2.2.1
theorem dX7_search_24 : decode cX7_search 24 = .ok (.iload_n 1, 1) := dg_X7_search_0.2.2.2.2.2.2.2.2.2.2.2.2.1
theorem dX7_search_25 : decode cX7_search 25 = .ok (.iaload, 1) := dg_X7_search_0.2.2.2.2.2.2.2.2.2.2.2.2.2.1
theorem dX7_search_26 : decode cX7_search 26 = .ok (.istore 4, 2) := dg_X7_search_0.2.2.2.2.2.2.2.2.2.2.2.2.2.2.1
theorem dX7_search_28 : decode cX7_search 28 = .ok (.iload 4, 2) := dg_X7_search_0.2.2.2.2.2.2.2.2.2.2.2.2.2.2.2
theorem dg_X7_search_30 : (decode cX7_search 30 = .ok (.lload_n 2, 1)) ∧ (decode cX7_search 31 = .ok (.invokestatic 148, 3)) ∧ (decode cX7_search 34 = .ok (.ifCond .ne 10, 3)) ∧ (decode cX7_search 37 = .ok (.aload_n 0, 1)) ∧ (decode cX7_search 38 = .ok (.bipush 9, 2)) ∧ (decode cX7_search 40 = .ok (.invokevirtual 65, 3)) ∧ (decode cX7_search 43 = .ok (.ireturn, 1)) ∧ (decode cX7_search 44 = .ok (.aload_n 0, 1)) ∧ (decode cX7_search 45 = .ok (.getfield 10, 3)) ∧ (decode cX7_search 48 = .ok (.getfield 76, 3)) ∧ (decode cX7_search 51 = .ok (.iload_n 1, 1)) ∧ (decode cX7_search 52 = .ok (.iaload, 1)) ∧ (decode cX7_search 53 = .ok (.iconst 1, 1)) ∧ (decode cX7_search 54 = .ok (.if_icmp .eq 9, 3)) ∧ (decode cX7_search 57 = .ok (.aload_n 0, 1)) ∧ (decode cX7_search 58 = .ok (.iconst 1, 1)) := by decide +kernel
theorem dX7_search_30 : decode cX7_search 30 = .ok (.lload_n 2, 1) := dg_X7_search_30.1
theorem dX7_search_31 : decode cX7_search 31 = .ok (.invokestatic 148, 3) := dg_X7_search_30.2.1
theorem dX7_search_34 : decode cX7_search 34 = .ok (.ifCond .ne 10, 3) := dg_X7_search_30.2.2.1
theorem dX7_search_37 : decode cX7_search 37 = .ok (.aload_n 0, 1) := dg_X7_search_30.2.2.2.1
theorem dX7_search_38 : decode cX7_search 38 = .ok (.bipush 9, 2) := dg_X7_search_30.2.2.2.2.1
theorem dX7_search_40 : decode cX7_search 40 = .ok (.invokevirtual 65, 3) := dg_X7_search_30.2.2.2.2.2.1
theorem dX7_search_43 : decode cX7_search 43 = .ok (.ireturn, 1) := dg_X7_search_30.2.2.2.2.2.2.1
theorem dX7_search_44 : decode cX7_search 44 = .ok (.aload_n 0, 1) := dg_X7_search_30.2.2.2.2.2.2.2.1
theorem dX7_search_45 : decode cX7_search 45 = .ok (.getfield 10, 3) := dg_X7_search_30.2.2.2.2.2.2.2.2.1
theorem dX7_search_48 : decode cX7_search 48 = .ok (.getfield 76, 3) := dg_X7_search_30.2.2.2.2.2.2.2.2.2.1
theorem dX7_search_51 : decode cX7_search 51 = .ok (.iload_n 1, 1) := dg_X7_search_30.2.2.2.2.2.2.2.2.2.2.1
theorem dX7_search_52 : decode cX7_search 52 = .ok (.iaload, 1) := dg_X7_search_30.2.2.2.2.2.2.2.2.2.2.2.1
theorem dX7_search_53 : decode cX7_search 53 = .ok (.iconst 1, 1) := dg_X7_search_30.2.2.2.2.2.2.2.2.2.2.2.2.1
theorem dX7_search_54 : decode cX7_search 54 = .ok (.if_icmp .eq 9, 3) := dg_X7_search_30.2.2.2.2.2.2.2.2.2.2.2.2.2.1
theorem dX7_search_57 : decode cX7_search 57 = .ok (.aload_n 0, 1) := dg_X7_search_30.2.2.2.2.2.2.2.2.2.2.2.2.2.2.1
theorem dX7_search_58 : decode cX7_search 58 = .ok (.iconst 1, 1) := dg_X7_search_30.2.2.2.2.2.2.2.2.2.2.2.2.2.2.2
theorem dg_X7_search_59 : (decode cX7_search 59 = .ok (.invokevirtual 65, 3)) ∧ (decode cX7_search 62 = .ok (.ireturn, 1)) ∧ (decode cX7_search 63 = .ok (.aload_n 0, 1)) ∧ (decode cX7_search 64 = .ok (.aload_n 0, 1)) ∧ (decode cX7_search 65 = .ok (.getfield 10, 3)) ∧ (decode cX7_search 68 = .ok (.iload_n 1, 1)) ∧ (decode cX7_search 69 = .ok (.iload 4, 2)) ∧ (decode cX7_search 71 = .ok (.lload_n 2, 1)) ∧ (decode cX7_search 72 = .ok (.invokestatic 156, 3)) ∧ (decode cX7_search 75 = .ok (.invokevirtual 199, 3)) ∧ (decode cX7_search 78 = .ok (.invokevirtual 100, 3)) ∧ (decode cX7_search 81 = .ok (.ireturn, 1)) := by decide +kernel
theorem dX7_search_59 : decode cX7_search 59 = .ok (.invokevirtual 65, 3) := dg_X7_search_59.1
theorem dX7_search_62 : decode cX7_search 62 = .ok (.ireturn, 1) := dg_X7_search_59.2.1
theorem dX7_search_63 : decode cX7_search 63 = .ok (.aload_n 0, 1) := dg_X7_search_59.2.2.1
theorem dX7_search_64 : decode cX7_search 64 = .ok (.aload_n 0, 1) := dg_X7_search_59.2.2.2.1
theorem dX7_search_65 : decode cX7_search 65 = .ok (.getfield 10, 3) := dg_X7_search_59.2.2.2.2.1
theorem dX7_search_68 : decode cX7_search 68 = .ok (.iload_n 1, 1) := dg_X7_search_59.2.2.2.2.2.1
theorem dX7_search_69 : decode cX7_search 69 = .ok (.iload 4, 2) := dg_X7_search_59.2.2.2.2.2.2.1
theorem dX7_search_71 : decode cX7_search 71 = .ok (.lload_n 2, 1) := dg_X7_search_59.2.2.2.2.2.2.2.1
theorem dX7_search_72 : decode cX7_search 72 = .ok (.invokestatic 156, 3) := dg_X7_search_59.2.2.2.2.2.2.2.2.1
theorem dX7_search_75 : decode cX7_search 75 = .ok (.invokevirtual 199, 3) := dg_X7_search_59.2.2.2.2.2.2.2.2.2.1
theorem dX7_search_78 : decode cX7_search 78 = .ok (.invokevirtual 100, 3) := dg_X7_search_59.2.2.2.2.2.2.2.2.2.2.1
theorem dX7_search_81 : decode cX7_search 81 = .ok (.ireturn, 1) := dg_X7_search_59.2.2.2.2.2.2.2.2.2.2.2
theorem zk_489 : Cond.methodLink RX7 199 yX6_halve ∈ zz_w := zz_in (List.mem_append_right _ (List.mem_append_right _ (List.mem_append_right _ (List.mem_append_left _ (List.mem_of_getElem? (i := 9) (by decide +kernel)))))) rfl
set_option maxRecDepth 20000 in
theorem zk_492 : Cond.code yX6_halve cX6_halve 11 (some .int) ∈ zz_w := zz_in (List.mem_append_right _ (List.mem_append_right _ (List.mem_append_right _ (List.mem_append_left _ (List.mem_of_getElem? (i := 12) (rfl)))))) rfl
theorem zk_490 : Cond.instanceMethod yX6_halve ∈ zz_w := zz_in (List.mem_append_right _ (List.mem_append_right _ (List.mem_append_right _ (List.mem_append_left _ (List.mem_of_getElem? (i := 10) (by decide +kernel)))))) rfl
theorem zk_491 : Cond.selects RX6 yX6_halve yX6_halve ∈ zz_w := zz_in (List.mem_append_right _ (List.mem_append_right _ (List.mem_append_right _ (List.mem_append_left _ (List.mem_of_getElem? (i := 11) (by decide +kernel)))))) rfl
theorem zc_X7_199 : zz_cV RX7 199 yX6_halve cX6_halve 11 (some .int) 2 := ⟨⟨zk_489, zk_492, zk_2, by decide, by decide, by decide +kernel⟩, zk_490, zk_491⟩
def fn_cx_search2 (na : Nat) (nu : Nat) (kdf : Nat → Int32) (dpf : Nat → Int32) (saf : Nat → Int32) (lnf : Nat → Int32) (btf : Nat → Int64) (x1 : Int32) (x2 : Int64) : Int32 := (if (fn_co_has (nI na) x1) = 0 then -5 else (if (fn_co_holds (kdf x1.toNatClampNeg) x2) = 0 then -9 else (if (nI ((dpf x1.toNatClampNeg).toNatClampNeg)) = 1 then (sp_bs (sp_rX (kdf x1.toNatClampNeg) btf ((saf x1.toNatClampNeg).toNatClampNeg)) (fn_co_rank (kdf x1.toNatClampNeg) (fn_co_cleaned (kdf x1.toNatClampNeg) x2)) ((lnf x1.toNatClampNeg).toNatClampNeg) 0 ((lnf x1.toNatClampNeg).toNatClampNeg)) else -1)))
abbrev rm_cx_search2 : Room := { frames := 2, cells := 0, slots := 0, locals := 52 }
abbrev po_cx_search2 (g : zz_G) (h0 : Nat) (st : Nat) (mk : Nat) (lk : Nat) (ch : Nat) (ru : Nat) (mr : Nat) (kd : Nat) (dp : Nat) (cl : Nat) (sa : Nat) (ln : Nat) (bt : Nat) (pn : Nat) (bf : Nat) (md : Int32) (la : Int32) (na : Nat) (nu : Nat) (kdf : Nat → Int32) (dpf : Nat → Int32) (saf : Nat → Int32) (lnf : Nat → Int32) (btf : Nat → Int64) (x1 : Int32) (x2 : Int64) (h_S : zz_SI na nu dpf saf lnf) : Int32 → va_W → Prop := fun (r : Int32) (u : va_W) => ∃ (la2 : Int32), r = fn_cx_search2 na nu kdf dpf saf lnf btf x1 x2 ∧ u = [cw_k6 h0 st mk lk ch ru mr md la2, cw_k5 st (nI na) (nI nu) kd dp cl sa ln bt pn bf, cw_i g kd 60 kdf, cw_i g dp 60 dpf, cw_i g sa 60 saf, cw_i g ln 60 lnf, cw_l g bt 4000 btf]
set_option maxHeartbeats 4000000 in
set_option maxRecDepth 100000 in
theorem cx_search2 (g : zz_G) (h0 : Nat) (st : Nat) (mk : Nat) (lk : Nat) (ch : Nat) (ru : Nat) (mr : Nat) (kd : Nat) (dp : Nat) (cl : Nat) (sa : Nat) (ln : Nat) (bt : Nat) (pn : Nat) (bf : Nat) (md : Int32) (la : Int32) (na : Nat) (nu : Nat) (kdf : Nat → Int32) (dpf : Nat → Int32) (saf : Nat → Int32) (lnf : Nat → Int32) (btf : Nat → Int64) (x1 : Int32) (x2 : Int64) (h_S : zz_SI na nu dpf saf lnf) : zz_I g yX7_search (.code yX7_search cX7_search 5 (some .int)) rm_cx_search2 [.ref h0, .int x1, .long x2] [cw_k6 h0 st mk lk ch ru mr md la, cw_k5 st (nI na) (nI nu) kd dp cl sa ln bt pn bf, cw_i g kd 60 kdf, cw_i g dp 60 dpf, cw_i g sa 60 saf, cw_i g ln 60 lnf, cw_l g bt 4000 btf] (po_cx_search2 g h0 st mk lk ch ru mr kd dp cl sa ln bt pn bf md la na nu kdf dpf saf lnf btf x1 x2 h_S) := by
  refine zz_I.intro (own := RX7) (cc := cX7_search) (nL := 5) (by decide) rfl (Nat.le_of_ble_eq_true rfl) ?_
  intro p l e s m args below meth c A H locs ls hC hnm hs hZ hl
  obtain ⟨hx, hb, hml, hown, hts, hr, hlocks, hK⟩ := id hC
  have hl : lv_has ls 5 [(0, .ref h0), (1, .int x1), (2, .long x2)] := hl
  have hZ : zz_Z g A s.heap [cw_k6 h0 st mk lk ch ru mr md la, cw_k5 st (nI na) (nI nu) kd dp cl sa ln bt pn bf, cw_i g kd 60 kdf, cw_i g dp 60 dpf, cw_i g sa 60 saf, cw_i g ln 60 lnf, cw_l g bt 4000 btf] H locs := hZ
  have hna := h_S.1
  have hnu := h_S.2.1
  refine lv_aload_n hx hb dX7_search_0 rfl (lv_at hl 0 rfl) ?_
  refine zz_get hC hZ 0 rfl zf_X7_10 rfl dX7_search_1 ?_
  refine lv_iload_n hx hb dX7_search_4 rfl (lv_at hl 1 rfl) ?_
  refine zz_iV (As := [.int x1]) (wc := [cw_k5 st (nI na) (nI nu) kd dp cl sa ln bt pn bf]) (wr := [cw_k6 h0 st mk lk ch ru mr md la, cw_i g kd 60 kdf, cw_i g dp 60 dpf, cw_i g sa 60 saf, cw_i g ln 60 lnf, cw_l g bt 4000 btf]) (rest := []) hC hZ hs hl zc_X7_73 (co_has g st kd dp cl sa ln bt pn bf (nI na) (nI nu) x1) [1] [0, 2, 3, 4, 5, 6] rfl rfl (by decide +kernel) (ci := 5) (q0 := 0) rfl rfl rfl rfl (Nat.le_of_ble_eq_true rfl) ⟨⟨Nat.le_of_ble_eq_true rfl, Nat.le_of_ble_eq_true rfl⟩, Nat.le_of_ble_eq_true rfl, Nat.le_of_ble_eq_true rfl⟩ dX7_search_5 (fun r1 u2 H locs hp hZ => ?_)
  obtain ⟨rfl, rfl⟩ := hp
  have hZ : zz_Z g A s.heap [cw_k6 h0 st mk lk ch ru mr md la, cw_i g kd 60 kdf, cw_i g dp 60 dpf, cw_i g sa 60 saf, cw_i g ln 60 lnf, cw_l g bt 4000 btf, cw_k5 st (nI na) (nI nu) kd dp cl sa ln bt pn bf] H locs := hZ
  refine lv_if_ne (tgt := 17) hx hb dX7_search_8 (by decide) (fun c3 => ?_) (fun c3 => ?_)
  · obtain ⟨a1, ha1, ea1⟩ := zl_has (by omega) c3
    have hl : lv_has ls 5 [(0, .ref h0), (1, .int (nI a1)), (2, .long x2)] := by rw [← ea1]; exact hl
    have bd4 : a1 < 2 ^ 31 := by omega
    have d_a1 : x1.toNatClampNeg = a1 := by rw [ea1]; exact nI_clamp bd4
    obtain ⟨sz1, lz1, dz1, es1, el1, ed1, g11, g21, g31, g41⟩ := h_S.2.2 a1 ha1
    have bd5 : sz1 < 2 ^ 31 := by omega
    have d_sz1 : (saf a1).toNatClampNeg = sz1 := by rw [es1]; exact nI_clamp bd5
    have bd6 : lz1 < 2 ^ 31 := by omega
    have d_lz1 : (lnf a1).toNatClampNeg = lz1 := by rw [el1]; exact nI_clamp bd6
    have bd7 : dz1 < 2 ^ 31 := by omega
    have d_dz1 : (dpf a1).toNatClampNeg = dz1 := by rw [ed1]; exact nI_clamp bd7
    refine lv_aload_n hx hb dX7_search_17 rfl (lv_at hl 0 rfl) ?_
    refine zz_get hC hZ 0 rfl zf_X7_10 rfl dX7_search_18 ?_
    refine zz_get hC hZ 6 rfl zf_X7_80 rfl dX7_search_21 ?_
    refine lv_iload_n hx hb dX7_search_24 rfl (lv_at hl 1 rfl) ?_
    have bd8 : a1 < 60 := by omega
    refine zz_ialdn hC hZ 1 rfl bd8 (by decide) dX7_search_25 ?_
    refine lv_istore (lv' := [(4, .int (kdf a1)), (0, .ref h0), (1, .int (nI a1)), (2, .long x2)]) hx hb dX7_search_26 hl (by decide) rfl (fun ls hl => ?_)
    refine lv_iload hx hb dX7_search_28 (lv_at hl 0 rfl) ?_
    refine lv_lload_n hx hb dX7_search_30 rfl (lv_at hl 3 rfl) ?_
    refine zz_iS (As := [.int (kdf a1), .long x2]) (wc := []) (wr := [cw_k6 h0 st mk lk ch ru mr md la, cw_i g kd 60 kdf, cw_i g dp 60 dpf, cw_i g sa 60 saf, cw_i g ln 60 lnf, cw_l g bt 4000 btf, cw_k5 st (nI na) (nI nu) kd dp cl sa ln bt pn bf]) (rest := []) hC hZ hs hl zc_X7_148 (co_holds g (kdf a1) x2) [] [0, 1, 2, 3, 4, 5, 6] rfl rfl (by decide +kernel) rfl rfl (Nat.le_of_ble_eq_true rfl) ⟨⟨Nat.le_of_ble_eq_true rfl, Nat.le_of_ble_eq_true rfl⟩, Nat.le_of_ble_eq_true rfl, Nat.le_of_ble_eq_true rfl⟩ dX7_search_31 (fun r9 u10 H locs hp hZ => ?_)
    obtain ⟨rfl, rfl⟩ := hp
    have hZ : zz_Z g A s.heap [cw_k6 h0 st mk lk ch ru mr md la, cw_i g kd 60 kdf, cw_i g dp 60 dpf, cw_i g sa 60 saf, cw_i g ln 60 lnf, cw_l g bt 4000 btf, cw_k5 st (nI na) (nI nu) kd dp cl sa ln bt pn bf] H locs := hZ
    refine lv_if_ne (tgt := 44) hx hb dX7_search_34 (by decide) (fun c11 => ?_) (fun c11 => ?_)
    · refine lv_aload_n hx hb dX7_search_44 rfl (lv_at hl 1 rfl) ?_
      refine zz_get hC hZ 0 rfl zf_X7_10 rfl dX7_search_45 ?_
      refine zz_get hC hZ 6 rfl zf_X7_76 rfl dX7_search_48 ?_
      refine lv_iload_n hx hb dX7_search_51 rfl (lv_at hl 2 rfl) ?_
      refine zz_ialdn hC hZ 2 rfl bd8 (by decide) dX7_search_52 ?_
      refine zz_topi (v := nI dz1) (ed1) ?_
      refine lv_iconst (v := 1) hx hb dX7_search_53 (by decide) ?_
      refine lv_icmp_eq (tgt := 63) hx hb dX7_search_54 (by decide) (fun c12 => ?_) (fun c12 => ?_)
      · have nc12 : dz1 = 1 := (nI_eq bd7 (by decide)).mp (show nI (dz1) = nI (1) from c12)
        refine lv_aload_n hx hb dX7_search_63 rfl (lv_at hl 1 rfl) ?_
        refine lv_aload_n hx hb dX7_search_64 rfl (lv_at hl 1 rfl) ?_
        refine zz_get hC hZ 0 rfl zf_X7_10 rfl dX7_search_65 ?_
        refine lv_iload_n hx hb dX7_search_68 rfl (lv_at hl 2 rfl) ?_
        refine lv_iload hx hb dX7_search_69 (lv_at hl 0 rfl) ?_
        refine lv_lload_n hx hb dX7_search_71 rfl (lv_at hl 3 rfl) ?_
        refine zz_lS (As := [.int (kdf a1), .long x2]) (wc := []) (wr := [cw_k6 h0 st mk lk ch ru mr md la, cw_i g kd 60 kdf, cw_i g dp 60 dpf, cw_i g sa 60 saf, cw_i g ln 60 lnf, cw_l g bt 4000 btf, cw_k5 st (nI na) (nI nu) kd dp cl sa ln bt pn bf]) (rest := [.int (nI a1), .ref st, .ref h0]) hC hZ hs hl zc_X7_156 (co_cleaned g (kdf a1) x2) [] [0, 1, 2, 3, 4, 5, 6] rfl rfl (by decide +kernel) rfl rfl (Nat.le_of_ble_eq_true rfl) ⟨⟨Nat.le_of_ble_eq_true rfl, Nat.le_of_ble_eq_true rfl⟩, Nat.le_of_ble_eq_true rfl, Nat.le_of_ble_eq_true rfl⟩ dX7_search_72 (fun r13 u14 H locs hp hZ => ?_)
        obtain ⟨rfl, rfl⟩ := hp
        have hZ : zz_Z g A s.heap [cw_k6 h0 st mk lk ch ru mr md la, cw_i g kd 60 kdf, cw_i g dp 60 dpf, cw_i g sa 60 saf, cw_i g ln 60 lnf, cw_l g bt 4000 btf, cw_k5 st (nI na) (nI nu) kd dp cl sa ln bt pn bf] H locs := hZ
        refine zz_iV (As := [.int (nI a1), .long (fn_co_cleaned (kdf a1) x2)]) (wc := [cw_k5 st (nI na) (nI nu) kd dp cl sa ln bt pn bf, cw_i g kd 60 kdf, cw_i g sa 60 saf, cw_i g ln 60 lnf, cw_l g bt 4000 btf]) (wr := [cw_k6 h0 st mk lk ch ru mr md la, cw_i g dp 60 dpf]) (rest := [.ref h0]) hC hZ hs hl zc_X7_199 (co_halve2 g st kd dp cl sa ln bt pn bf na nu kdf saf lnf btf a1 sz1 lz1 (fn_co_cleaned (kdf a1) x2) (by omega) (es1) (el1) (by omega)) [6, 1, 3, 4, 5] [0, 2] rfl rfl (by decide +kernel) (ci := 5) (q0 := 0) rfl rfl rfl rfl (Nat.le_of_ble_eq_true rfl) ⟨⟨Nat.le_of_ble_eq_true rfl, Nat.le_of_ble_eq_true rfl⟩, Nat.le_of_ble_eq_true rfl, Nat.le_of_ble_eq_true rfl⟩ dX7_search_75 (fun r15 u16 H locs hp hZ => ?_)
        obtain ⟨f17, rfl⟩ := hp
        have hZ : zz_Z g A s.heap [cw_k6 h0 st mk lk ch ru mr md la, cw_i g dp 60 dpf, cw_k5 st (nI na) (nI nu) kd dp cl sa ln bt pn bf, cw_i g kd 60 kdf, cw_i g sa 60 saf, cw_i g ln 60 lnf, cw_l g bt 4000 btf] H locs := hZ
        have d_r15 : sp_bs (sp_rX (kdf a1) btf sz1) (fn_co_rank (kdf a1) (fn_co_cleaned (kdf a1) x2)) lz1 0 lz1 = r15 := f17.symm
        refine zz_iV (As := [.int r15]) (wc := [cw_k6 h0 st mk lk ch ru mr md la]) (wr := [cw_i g dp 60 dpf, cw_k5 st (nI na) (nI nu) kd dp cl sa ln bt pn bf, cw_i g kd 60 kdf, cw_i g sa 60 saf, cw_i g ln 60 lnf, cw_l g bt 4000 btf]) (rest := []) hC hZ hs hl zc_X7_100 (co_fine g h0 st mk lk ch ru mr md la r15) [0] [1, 2, 3, 4, 5, 6] rfl rfl (by decide +kernel) (ci := 6) (q0 := 0) rfl rfl rfl rfl (Nat.le_of_ble_eq_true rfl) ⟨⟨Nat.le_of_ble_eq_true rfl, Nat.le_of_ble_eq_true rfl⟩, Nat.le_of_ble_eq_true rfl, Nat.le_of_ble_eq_true rfl⟩ dX7_search_78 (fun r18 u19 H locs hp hZ => ?_)
        obtain ⟨rfl, rfl⟩ := hp
        have hZ : zz_Z g A s.heap [cw_i g dp 60 dpf, cw_k5 st (nI na) (nI nu) kd dp cl sa ln bt pn bf, cw_i g kd 60 kdf, cw_i g sa 60 saf, cw_i g ln 60 lnf, cw_l g bt 4000 btf, cw_k6 h0 st mk lk ch ru mr md 0] H locs := hZ
        have hZ : zz_Z g A s.heap [cw_k6 h0 st mk lk ch ru mr md 0, cw_k5 st (nI na) (nI nu) kd dp cl sa ln bt pn bf, cw_i g kd 60 kdf, cw_i g dp 60 dpf, cw_i g sa 60 saf, cw_i g ln 60 lnf, cw_l g bt 4000 btf] H locs := hZ.sub [6, 1, 2, 0, 3, 4, 5] (by decide +kernel) rfl
        exact zz_iret hC hZ (⟨0, by refine Eq.symm ?_; rw [fn_cx_search2]; refine (if_neg (by (try simp only [d_a1, d_sz1, d_lz1, d_dz1, d_r15]); exact c3)).trans ?_; refine (if_neg (by (try simp only [d_a1, d_sz1, d_lz1, d_dz1, d_r15]); exact c11)).trans ?_; refine (if_pos (by (try simp only [d_a1, d_sz1, d_lz1, d_dz1, d_r15]); exact c12)).trans ?_; first | (simp only [d_a1, d_sz1, d_lz1, d_dz1, d_r15]; done) | rfl, rfl⟩) (Nat.le_of_ble_eq_true rfl) (Nat.le_of_ble_eq_true rfl) dX7_search_81
      · have nc12 : ¬ dz1 = 1 := fun zq => c12 (show nI (dz1) = nI (1) from (nI_eq bd7 (by decide)).mpr zq)
        refine lv_aload_n hx hb dX7_search_57 rfl (lv_at hl 1 rfl) ?_
        refine lv_iconst (v := 1) hx hb dX7_search_58 (by decide) ?_
        refine zz_iV (As := [.int 1]) (wc := [cw_k6 h0 st mk lk ch ru mr md la]) (wr := [cw_i g kd 60 kdf, cw_i g dp 60 dpf, cw_i g sa 60 saf, cw_i g ln 60 lnf, cw_l g bt 4000 btf, cw_k5 st (nI na) (nI nu) kd dp cl sa ln bt pn bf]) (rest := []) hC hZ hs hl zc_X7_65 (co_fail g h0 st mk lk ch ru mr md la 1) [0] [1, 2, 3, 4, 5, 6] rfl rfl (by decide +kernel) (ci := 6) (q0 := 0) rfl rfl rfl rfl (Nat.le_of_ble_eq_true rfl) ⟨⟨Nat.le_of_ble_eq_true rfl, Nat.le_of_ble_eq_true rfl⟩, Nat.le_of_ble_eq_true rfl, Nat.le_of_ble_eq_true rfl⟩ dX7_search_59 (fun r20 u21 H locs hp hZ => ?_)
        obtain ⟨rfl, rfl⟩ := hp
        have hZ : zz_Z g A s.heap [cw_i g kd 60 kdf, cw_i g dp 60 dpf, cw_i g sa 60 saf, cw_i g ln 60 lnf, cw_l g bt 4000 btf, cw_k5 st (nI na) (nI nu) kd dp cl sa ln bt pn bf, cw_k6 h0 st mk lk ch ru mr md 1] H locs := hZ
        have hZ : zz_Z g A s.heap [cw_k6 h0 st mk lk ch ru mr md 1, cw_k5 st (nI na) (nI nu) kd dp cl sa ln bt pn bf, cw_i g kd 60 kdf, cw_i g dp 60 dpf, cw_i g sa 60 saf, cw_i g ln 60 lnf, cw_l g bt 4000 btf] H locs := hZ.sub [6, 5, 0, 1, 2, 3, 4] (by decide +kernel) rfl
        exact zz_iret hC hZ (⟨1, by refine Eq.symm ?_; rw [fn_cx_search2]; refine (if_neg (by (try simp only [d_a1, d_sz1, d_lz1, d_dz1]); exact c3)).trans ?_; refine (if_neg (by (try simp only [d_a1, d_sz1, d_lz1, d_dz1]); exact c11)).trans ?_; refine (if_neg (by (try simp only [d_a1, d_sz1, d_lz1, d_dz1]); exact c12)).trans ?_; first | (simp only [d_a1, d_sz1, d_lz1, d_dz1]; done) | rfl, rfl⟩) (Nat.le_of_ble_eq_true rfl) (Nat.le_of_ble_eq_true rfl) dX7_search_62
    · refine lv_aload_n hx hb dX7_search_37 rfl (lv_at hl 1 rfl) ?_
      refine lv_bipush (v := 9) hx hb dX7_search_38 (by decide) ?_
      refine zz_iV (As := [.int 9]) (wc := [cw_k6 h0 st mk lk ch ru mr md la]) (wr := [cw_i g kd 60 kdf, cw_i g dp 60 dpf, cw_i g sa 60 saf, cw_i g ln 60 lnf, cw_l g bt 4000 btf, cw_k5 st (nI na) (nI nu) kd dp cl sa ln bt pn bf]) (rest := []) hC hZ hs hl zc_X7_65 (co_fail g h0 st mk lk ch ru mr md la 9) [0] [1, 2, 3, 4, 5, 6] rfl rfl (by decide +kernel) (ci := 6) (q0 := 0) rfl rfl rfl rfl (Nat.le_of_ble_eq_true rfl) ⟨⟨Nat.le_of_ble_eq_true rfl, Nat.le_of_ble_eq_true rfl⟩, Nat.le_of_ble_eq_true rfl, Nat.le_of_ble_eq_true rfl⟩ dX7_search_40 (fun r22 u23 H locs hp hZ => ?_)
      obtain ⟨rfl, rfl⟩ := hp
      have hZ : zz_Z g A s.heap [cw_i g kd 60 kdf, cw_i g dp 60 dpf, cw_i g sa 60 saf, cw_i g ln 60 lnf, cw_l g bt 4000 btf, cw_k5 st (nI na) (nI nu) kd dp cl sa ln bt pn bf, cw_k6 h0 st mk lk ch ru mr md 9] H locs := hZ
      have hZ : zz_Z g A s.heap [cw_k6 h0 st mk lk ch ru mr md 9, cw_k5 st (nI na) (nI nu) kd dp cl sa ln bt pn bf, cw_i g kd 60 kdf, cw_i g dp 60 dpf, cw_i g sa 60 saf, cw_i g ln 60 lnf, cw_l g bt 4000 btf] H locs := hZ.sub [6, 5, 0, 1, 2, 3, 4] (by decide +kernel) rfl
      exact zz_iret hC hZ (⟨9, by refine Eq.symm ?_; rw [fn_cx_search2]; refine (if_neg (by (try simp only [d_a1, d_sz1, d_lz1, d_dz1]); exact c3)).trans ?_; refine (if_pos (by (try simp only [d_a1, d_sz1, d_lz1, d_dz1]); exact c11)).trans ?_; first | (simp only [d_a1, d_sz1, d_lz1, d_dz1]; done) | rfl, rfl⟩) (Nat.le_of_ble_eq_true rfl) (Nat.le_of_ble_eq_true rfl) dX7_search_43
  · refine lv_aload_n hx hb dX7_search_11 rfl (lv_at hl 0 rfl) ?_
    refine lv_iconst (v := 5) hx hb dX7_search_12 (by decide) ?_
    refine zz_iV (As := [.int 5]) (wc := [cw_k6 h0 st mk lk ch ru mr md la]) (wr := [cw_i g kd 60 kdf, cw_i g dp 60 dpf, cw_i g sa 60 saf, cw_i g ln 60 lnf, cw_l g bt 4000 btf, cw_k5 st (nI na) (nI nu) kd dp cl sa ln bt pn bf]) (rest := []) hC hZ hs hl zc_X7_65 (co_fail g h0 st mk lk ch ru mr md la 5) [0] [1, 2, 3, 4, 5, 6] rfl rfl (by decide +kernel) (ci := 6) (q0 := 0) rfl rfl rfl rfl (Nat.le_of_ble_eq_true rfl) ⟨⟨Nat.le_of_ble_eq_true rfl, Nat.le_of_ble_eq_true rfl⟩, Nat.le_of_ble_eq_true rfl, Nat.le_of_ble_eq_true rfl⟩ dX7_search_13 (fun r24 u25 H locs hp hZ => ?_)
    obtain ⟨rfl, rfl⟩ := hp
    have hZ : zz_Z g A s.heap [cw_i g kd 60 kdf, cw_i g dp 60 dpf, cw_i g sa 60 saf, cw_i g ln 60 lnf, cw_l g bt 4000 btf, cw_k5 st (nI na) (nI nu) kd dp cl sa ln bt pn bf, cw_k6 h0 st mk lk ch ru mr md 5] H locs := hZ
    have hZ : zz_Z g A s.heap [cw_k6 h0 st mk lk ch ru mr md 5, cw_k5 st (nI na) (nI nu) kd dp cl sa ln bt pn bf, cw_i g kd 60 kdf, cw_i g dp 60 dpf, cw_i g sa 60 saf, cw_i g ln 60 lnf, cw_l g bt 4000 btf] H locs := hZ.sub [6, 5, 0, 1, 2, 3, 4] (by decide +kernel) rfl
    exact zz_iret hC hZ (⟨5, by show _ = _; rw [fn_cx_search2]; rw [if_pos c3], rfl⟩) (Nat.le_of_ble_eq_true rfl) (Nat.le_of_ble_eq_true rfl) dX7_search_16
theorem dg_X8_search_0 : (decode cX8_search 0 = .ok (.aload_n 0, 1)) ∧ (decode cX8_search 1 = .ok (.iload_n 1, 1)) ∧ (decode cX8_search 2 = .ok (.invokevirtual 200, 3)) ∧ (decode cX8_search 5 = .ok (.ifCond .ne 7, 3)) ∧ (decode cX8_search 8 = .ok (.iconst 5, 1)) ∧ (decode cX8_search 9 = .ok (.goto 36, 3)) ∧ (decode cX8_search 12 = .ok (.aload_n 0, 1)) ∧ (decode cX8_search 13 = .ok (.getfield 7, 3)) ∧ (decode cX8_search 16 = .ok (.iload_n 1, 1)) ∧ (decode cX8_search 17 = .ok (.iaload, 1)) ∧ (decode cX8_search 18 = .ok (.lload_n 2, 1)) ∧ (decode cX8_search 19 = .ok (.invokestatic 230, 3)) ∧ (decode cX8_search 22 = .ok (.ifCond .ne 8, 3)) ∧ (decode cX8_search 25 = .ok (.bipush 9, 2)) ∧ (decode cX8_search 27 = .ok (.goto 18, 3)) ∧ (decode cX8_search 30 = .ok (.aload_n 0, 1)) := by decide +kernel
theorem dX8_search_0 : decode cX8_search 0 = .ok (.aload_n 0, 1) := dg_X8_search_0.1
theorem dX8_search_1 : decode cX8_search 1 = .ok (.iload_n 1, 1) := dg_X8_search_0.2.1
theorem dX8_search_2 : decode cX8_search 2 = .ok (.invokevirtual 200, 3) := dg_X8_search_0.2.2.1
theorem dX8_search_5 : decode cX8_search 5 = .ok (.ifCond .ne 7, 3) := dg_X8_search_0.2.2.2.1
theorem dX8_search_8 : decode cX8_search 8 = .ok (.iconst 5, 1) := dg_X8_search_0.2.2.2.2.1
theorem dX8_search_9 : decode cX8_search 9 = .ok (.goto 36, 3) := dg_X8_search_0.2.2.2.2.2.1
theorem dX8_search_12 : decode cX8_search 12 = .ok (.aload_n 0, 1) := dg_X8_search_0.2.2.2.2.2.2.1
theorem dX8_search_13 : decode cX8_search 13 = .ok (.getfield 7, 3) := dg_X8_search_0.2.2.2.2.2.2.2.1
theorem dX8_search_16 : decode cX8_search 16 = .ok (.iload_n 1, 1) := dg_X8_search_0.2.2.2.2.2.2.2.2.1
theorem dX8_search_17 : decode cX8_search 17 = .ok (.iaload, 1) := dg_X8_search_0.2.2.2.2.2.2.2.2.2.1
theorem dX8_search_18 : decode cX8_search 18 = .ok (.lload_n 2, 1) := dg_X8_search_0.2.2.2.2.2.2.2.2.2.2.1
theorem dX8_search_19 : decode cX8_search 19 = .ok (.invokestatic 230, 3) := dg_X8_search_0.2.2.2.2.2.2.2.2.2.2.2.1
theorem dX8_search_22 : decode cX8_search 22 = .ok (.ifCond .ne 8, 3) := dg_X8_search_0.2.2.2.2.2.2.2.2.2.2.2.2.1
theorem dX8_search_25 : decode cX8_search 25 = .ok (.bipush 9, 2) := dg_X8_search_0.2.2.2.2.2.2.2.2.2.2.2.2.2.1
theorem dX8_search_27 : decode cX8_search 27 = .ok (.goto 18, 3) := dg_X8_search_0.2.2.2.2.2.2.2.2.2.2.2.2.2.2.1
theorem dX8_search_30 : decode cX8_search 30 = .ok (.aload_n 0, 1) := dg_X8_search_0.2.2.2.2.2.2.2.2.2.2.2.2.2.2.2
theorem dg_X8_search_31 : (decode cX8_search 31 = .ok (.getfield 13, 3)) ∧ (decode cX8_search 34 = .ok (.iload_n 1, 1)) ∧ (decode cX8_search 35 = .ok (.iaload, 1)) ∧ (decode cX8_search 36 = .ok (.iconst 1, 1)) ∧ (decode cX8_search 37 = .ok (.if_icmp .le 7, 3)) ∧ (decode cX8_search 40 = .ok (.iconst 1, 1)) ∧ (decode cX8_search 41 = .ok (.goto 4, 3)) ∧ (decode cX8_search 44 = .ok (.iconst 0, 1)) ∧ (decode cX8_search 45 = .ok (.istore 4, 2)) ∧ (decode cX8_search 47 = .ok (.iload 4, 2)) ∧ (decode cX8_search 49 = .ok (.ifCond .le 10, 3)) ∧ (decode cX8_search 52 = .ok (.aload_n 0, 1)) ∧ (decode cX8_search 53 = .ok (.iload 4, 2)) ∧ (decode cX8_search 55 = .ok (.invokevirtual 175, 3)) ∧ (decode cX8_search 58 = .ok (.ireturn, 1)) ∧ (decode cX8_search 59 = .ok (.aload_n 0, 1)) := by decide +kernel
theorem dX8_search_31 : decode cX8_search 31 = .ok (.getfield 13, 3) := dg_X8_search_31.1
theorem dX8_search_34 : decode cX8_search 34 = .ok (.iload_n 1, 1) := dg_X8_search_31.2.1
theorem dX8_search_35 : decode cX8_search 35 = .ok (.iaload, 1) := dg_X8_search_31.2.2.1
theorem dX8_search_36 : decode cX8_search 36 = .ok (.iconst 1, 1) := dg_X8_search_31.2.2.2.1
theorem dX8_search_37 : decode cX8_search 37 = .ok (.if_icmp .le 7, 3) := dg_X8_search_31.2.2.2.2.1
theorem dX8_search_40 : decode cX8_search 40 = .ok (.iconst 1, 1) := dg_X8_search_31.2.2.2.2.2.1
theorem dX8_search_41 : decode cX8_search 41 = .ok (.goto 4, 3) := dg_X8_search_31.2.2.2.2.2.2.1
theorem dX8_search_44 : decode cX8_search 44 = .ok (.iconst 0, 1) := dg_X8_search_31.2.2.2.2.2.2.2.1
theorem dX8_search_45 : decode cX8_search 45 = .ok (.istore 4, 2) := dg_X8_search_31.2.2.2.2.2.2.2.2.1
theorem dX8_search_47 : decode cX8_search 47 = .ok (.iload 4, 2) := dg_X8_search_31.2.2.2.2.2.2.2.2.2.1
theorem dX8_search_49 : decode cX8_search 49 = .ok (.ifCond .le 10, 3) := dg_X8_search_31.2.2.2.2.2.2.2.2.2.2.1
theorem dX8_search_52 : decode cX8_search 52 = .ok (.aload_n 0, 1) := dg_X8_search_31.2.2.2.2.2.2.2.2.2.2.2.1
theorem dX8_search_53 : decode cX8_search 53 = .ok (.iload 4, 2) := dg_X8_search_31.2.2.2.2.2.2.2.2.2.2.2.2.1
theorem dX8_search_55 : decode cX8_search 55 = .ok (.invokevirtual 175, 3) := dg_X8_search_31.2.2.2.2.2.2.2.2.2.2.2.2.2.1
theorem dX8_search_58 : decode cX8_search 58 = .ok (.ireturn, 1) := dg_X8_search_31.2.2.2.2.2.2.2.2.2.2.2.2.2.2.1
theorem dX8_search_59 : decode cX8_search 59 = .ok (.aload_n 0, 1) := dg_X8_search_31.2.2.2.2.2.2.2.2.2.2.2.2.2.2.2
theorem dg_X8_search_60 : (decode cX8_search 60 = .ok (.getfield 7, 3)) ∧ (decode cX8_search 63 = .ok (.iload_n 1, 1)) ∧ (decode cX8_search 64 = .ok (.iaload, 1)) ∧ (decode cX8_search 65 = .ok (.aload_n 0, 1)) ∧ (decode cX8_search 66 = .ok (.getfield 7, 3)) ∧ (decode cX8_search 69 = .ok (.iload_n 1, 1)) ∧ (decode cX8_search 70 = .ok (.iaload, 1)) ∧ (decode cX8_search 71 = .ok (.lload_n 2, 1)) ∧ (decode cX8_search 72 = .ok (.invokestatic 150, 3)) ∧ (decode cX8_search 75 = .ok (.invokestatic 239, 3)) ∧ (decode cX8_search 78 = .ok (.lstore 5, 2)) ∧ (decode cX8_search 80 = .ok (.iconst 0, 1)) ∧ (decode cX8_search 81 = .ok (.istore 7, 2)) ∧ (decode cX8_search 83 = .ok (.aload_n 0, 1)) ∧ (decode cX8_search 84 = .ok (.getfield 16, 3)) ∧ (decode cX8_search 87 = .ok (.iload_n 1, 1)) := by decide +kernel
theorem dX8_search_60 : decode cX8_search 60 = .ok (.getfield 7, 3) := dg_X8_search_60.1
theorem dX8_search_63 : decode cX8_search 63 = .ok (.iload_n 1, 1) := dg_X8_search_60.2.1
theorem dX8_search_64 : decode cX8_search 64 = .ok (.iaload, 1) := dg_X8_search_60.2.2.1
theorem dX8_search_65 : decode cX8_search 65 = .ok (.aload_n 0, 1) := dg_X8_search_60.2.2.2.1
theorem dX8_search_66 : decode cX8_search 66 = .ok (.getfield 7, 3) := dg_X8_search_60.2.2.2.2.1
theorem dX8_search_69 : decode cX8_search 69 = .ok (.iload_n 1, 1) := dg_X8_search_60.2.2.2.2.2.1
theorem dX8_search_70 : decode cX8_search 70 = .ok (.iaload, 1) := dg_X8_search_60.2.2.2.2.2.2.1
theorem dX8_search_71 : decode cX8_search 71 = .ok (.lload_n 2, 1) := dg_X8_search_60.2.2.2.2.2.2.2.1
theorem dX8_search_72 : decode cX8_search 72 = .ok (.invokestatic 150, 3) := dg_X8_search_60.2.2.2.2.2.2.2.2.1
theorem dX8_search_75 : decode cX8_search 75 = .ok (.invokestatic 239, 3) := dg_X8_search_60.2.2.2.2.2.2.2.2.2.1
theorem dX8_search_78 : decode cX8_search 78 = .ok (.lstore 5, 2) := dg_X8_search_60.2.2.2.2.2.2.2.2.2.2.1
theorem dX8_search_80 : decode cX8_search 80 = .ok (.iconst 0, 1) := dg_X8_search_60.2.2.2.2.2.2.2.2.2.2.2.1
theorem dX8_search_81 : decode cX8_search 81 = .ok (.istore 7, 2) := dg_X8_search_60.2.2.2.2.2.2.2.2.2.2.2.2.1
theorem dX8_search_83 : decode cX8_search 83 = .ok (.aload_n 0, 1) := dg_X8_search_60.2.2.2.2.2.2.2.2.2.2.2.2.2.1
theorem dX8_search_84 : decode cX8_search 84 = .ok (.getfield 16, 3) := dg_X8_search_60.2.2.2.2.2.2.2.2.2.2.2.2.2.2.1
theorem dX8_search_87 : decode cX8_search 87 = .ok (.iload_n 1, 1) := dg_X8_search_60.2.2.2.2.2.2.2.2.2.2.2.2.2.2.2
theorem dg_X8_search_88 : (decode cX8_search 88 = .ok (.iaload, 1)) ∧ (decode cX8_search 89 = .ok (.iconst 1, 1)) ∧ (decode cX8_search 90 = .ok (.isub, 1)) ∧ (decode cX8_search 91 = .ok (.istore 8, 2)) ∧ (decode cX8_search 93 = .ok (.iload 7, 2)) ∧ (decode cX8_search 95 = .ok (.iload 8, 2)) ∧ (decode cX8_search 97 = .ok (.if_icmp .gt 78, 3)) ∧ (decode cX8_search 100 = .ok (.iload 7, 2)) ∧ (decode cX8_search 102 = .ok (.iload 8, 2)) ∧ (decode cX8_search 104 = .ok (.iadd, 1)) ∧ (decode cX8_search 105 = .ok (.iconst 2, 1)) ∧ (decode cX8_search 106 = .ok (.idiv, 1)) ∧ (decode cX8_search 107 = .ok (.istore 9, 2)) ∧ (decode cX8_search 109 = .ok (.aload_n 0, 1)) ∧ (decode cX8_search 110 = .ok (.getfield 7, 3)) ∧ (decode cX8_search 113 = .ok (.iload_n 1, 1)) := by decide +kernel
theorem dX8_search_88 : decode cX8_search 88 = .ok (.iaload, 1) := dg_X8_search_88.1
theorem dX8_search_89 : decode cX8_search 89 = .ok (.iconst 1, 1) := dg_X8_search_88.2.1
theorem dX8_search_90 : decode cX8_search 90 = .ok (.isub, 1) := dg_X8_search_88.2.2.1
theorem dX8_search_91 : decode cX8_search 91 = .ok (.istore 8, 2) := dg_X8_search_88.2.2.2.1
theorem dX8_search_93 : decode cX8_search 93 = .ok (.iload 7, 2) := dg_X8_search_88.2.2.2.2.1
theorem dX8_search_95 : decode cX8_search 95 = .ok (.iload 8, 2) := dg_X8_search_88.2.2.2.2.2.1
theorem dX8_search_97 : decode cX8_search 97 = .ok (.if_icmp .gt 78, 3) := dg_X8_search_88.2.2.2.2.2.2.1
theorem dX8_search_100 : decode cX8_search 100 = .ok (.iload 7, 2) := dg_X8_search_88.2.2.2.2.2.2.2.1
theorem dX8_search_102 : decode cX8_search 102 = .ok (.iload 8, 2) := dg_X8_search_88.2.2.2.2.2.2.2.2.1
theorem dX8_search_104 : decode cX8_search 104 = .ok (.iadd, 1) := dg_X8_search_88.2.2.2.2.2.2.2.2.2.1
theorem dX8_search_105 : decode cX8_search 105 = .ok (.iconst 2, 1) := dg_X8_search_88.2.2.2.2.2.2.2.2.2.2.1
theorem dX8_search_106 : decode cX8_search 106 = .ok (.idiv, 1) := dg_X8_search_88.2.2.2.2.2.2.2.2.2.2.2.1
theorem dX8_search_107 : decode cX8_search 107 = .ok (.istore 9, 2) := dg_X8_search_88.2.2.2.2.2.2.2.2.2.2.2.2.1
theorem dX8_search_109 : decode cX8_search 109 = .ok (.aload_n 0, 1) := dg_X8_search_88.2.2.2.2.2.2.2.2.2.2.2.2.2.1
theorem dX8_search_110 : decode cX8_search 110 = .ok (.getfield 7, 3) := dg_X8_search_88.2.2.2.2.2.2.2.2.2.2.2.2.2.2.1
theorem dX8_search_113 : decode cX8_search 113 = .ok (.iload_n 1, 1) := dg_X8_search_88.2.2.2.2.2.2.2.2.2.2.2.2.2.2.2
theorem dg_X8_search_114 : (decode cX8_search 114 = .ok (.iaload, 1)) ∧ (decode cX8_search 115 = .ok (.aload_n 0, 1)) ∧ (decode cX8_search 116 = .ok (.getfield 25, 3)) ∧ (decode cX8_search 119 = .ok (.aload_n 0, 1)) ∧ (decode cX8_search 120 = .ok (.getfield 22, 3)) ∧ (decode cX8_search 123 = .ok (.iload_n 1, 1)) ∧ (decode cX8_search 124 = .ok (.iaload, 1)) ∧ (decode cX8_search 125 = .ok (.iload 9, 2)) ∧ (decode cX8_search 127 = .ok (.iadd, 1)) ∧ (decode cX8_search 128 = .ok (.laload, 1)) ∧ (decode cX8_search 129 = .ok (.invokestatic 239, 3)) ∧ (decode cX8_search 132 = .ok (.lstore 10, 2)) ∧ (decode cX8_search 134 = .ok (.lload 10, 2)) ∧ (decode cX8_search 136 = .ok (.lload 5, 2)) ∧ (decode cX8_search 138 = .ok (.lcmp, 1)) ∧ (decode cX8_search 139 = .ok (.ifCond .ne 10, 3)) := by decide +kernel
theorem dX8_search_114 : decode cX8_search 114 = .ok (.iaload, 1) := dg_X8_search_114.1
theorem dX8_search_115 : decode cX8_search 115 = .ok (.aload_n 0, 1) := dg_X8_search_114.2.1
theorem dX8_search_116 : decode cX8_search 116 = .ok (.getfield 25, 3) := dg_X8_search_114.2.2.1
theorem dX8_search_119 : decode cX8_search 119 = .ok (.aload_n 0, 1) := dg_X8_search_114.2.2.2.1
theorem dX8_search_120 : decode cX8_search 120 = .ok (.getfield 22, 3) := dg_X8_search_114.2.2.2.2.1
theorem dX8_search_123 : decode cX8_search 123 = .ok (.iload_n 1, 1) := dg_X8_search_114.2.2.2.2.2.1
theorem dX8_search_124 : decode cX8_search 124 = .ok (.iaload, 1) := dg_X8_search_114.2.2.2.2.2.2.1
theorem dX8_search_125 : decode cX8_search 125 = .ok (.iload 9, 2) := dg_X8_search_114.2.2.2.2.2.2.2.1
theorem dX8_search_127 : decode cX8_search 127 = .ok (.iadd, 1) := dg_X8_search_114.2.2.2.2.2.2.2.2.1
theorem dX8_search_128 : decode cX8_search 128 = .ok (.laload, 1) := dg_X8_search_114.2.2.2.2.2.2.2.2.2.1
theorem dX8_search_129 : decode cX8_search 129 = .ok (.invokestatic 239, 3) := dg_X8_search_114.2.2.2.2.2.2.2.2.2.2.1
theorem dX8_search_132 : decode cX8_search 132 = .ok (.lstore 10, 2) := dg_X8_search_114.2.2.2.2.2.2.2.2.2.2.2.1
theorem dX8_search_134 : decode cX8_search 134 = .ok (.lload 10, 2) := dg_X8_search_114.2.2.2.2.2.2.2.2.2.2.2.2.1
theorem dX8_search_136 : decode cX8_search 136 = .ok (.lload 5, 2) := dg_X8_search_114.2.2.2.2.2.2.2.2.2.2.2.2.2.1
theorem dX8_search_138 : decode cX8_search 138 = .ok (.lcmp, 1) := dg_X8_search_114.2.2.2.2.2.2.2.2.2.2.2.2.2.2.1
theorem dX8_search_139 : decode cX8_search 139 = .ok (.ifCond .ne 10, 3) := dg_X8_search_114.2.2.2.2.2.2.2.2.2.2.2.2.2.2.2
theorem dg_X8_search_142 : (decode cX8_search 142 = .ok (.aload_n 0, 1)) ∧ (decode cX8_search 143 = .ok (.iload 9, 2)) ∧ (decode cX8_search 145 = .ok (.invokevirtual 183, 3)) ∧ (decode cX8_search 148 = .ok (.ireturn, 1)) ∧ (decode cX8_search 149 = .ok (.lload 10, 2)) ∧ (decode cX8_search 151 = .ok (.lload 5, 2)) ∧ (decode cX8_search 153 = .ok (.lcmp, 1)) ∧ (decode cX8_search 154 = .ok (.ifCond .ge 12, 3)) ∧ (decode cX8_search 157 = .ok (.iload 9, 2)) ∧ (decode cX8_search 159 = .ok (.iconst 1, 1)) ∧ (decode cX8_search 160 = .ok (.iadd, 1)) ∧ (decode cX8_search 161 = .ok (.istore 7, 2)) ∧ (decode cX8_search 163 = .ok (.goto 9, 3)) ∧ (decode cX8_search 166 = .ok (.iload 9, 2)) ∧ (decode cX8_search 168 = .ok (.iconst 1, 1)) ∧ (decode cX8_search 169 = .ok (.isub, 1)) := by decide +kernel
theorem dX8_search_142 : decode cX8_search 142 = .ok (.aload_n 0, 1) := dg_X8_search_142.1
theorem dX8_search_143 : decode cX8_search 143 = .ok (.iload 9, 2) := dg_X8_search_142.2.1
theorem dX8_search_145 : decode cX8_search 145 = .ok (.invokevirtual 183, 3) := dg_X8_search_142.2.2.1
theorem dX8_search_148 : decode cX8_search 148 = .ok (.ireturn, 1) := dg_X8_search_142.2.2.2.1
theorem dX8_search_149 : decode cX8_search 149 = .ok (.lload 10, 2) := dg_X8_search_142.2.2.2.2.1
theorem dX8_search_151 : decode cX8_search 151 = .ok (.lload 5, 2) := dg_X8_search_142.2.2.2.2.2.1
theorem dX8_search_153 : decode cX8_search 153 = .ok (.lcmp, 1) := dg_X8_search_142.2.2.2.2.2.2.1
theorem dX8_search_154 : decode cX8_search 154 = .ok (.ifCond .ge 12, 3) := dg_X8_search_142.2.2.2.2.2.2.2.1
theorem dX8_search_157 : decode cX8_search 157 = .ok (.iload 9, 2) := dg_X8_search_142.2.2.2.2.2.2.2.2.1
theorem dX8_search_159 : decode cX8_search 159 = .ok (.iconst 1, 1) := dg_X8_search_142.2.2.2.2.2.2.2.2.2.1
theorem dX8_search_160 : decode cX8_search 160 = .ok (.iadd, 1) := dg_X8_search_142.2.2.2.2.2.2.2.2.2.2.1
theorem dX8_search_161 : decode cX8_search 161 = .ok (.istore 7, 2) := dg_X8_search_142.2.2.2.2.2.2.2.2.2.2.2.1
theorem dX8_search_163 : decode cX8_search 163 = .ok (.goto 9, 3) := dg_X8_search_142.2.2.2.2.2.2.2.2.2.2.2.2.1
theorem dX8_search_166 : decode cX8_search 166 = .ok (.iload 9, 2) := dg_X8_search_142.2.2.2.2.2.2.2.2.2.2.2.2.2.1
theorem dX8_search_168 : decode cX8_search 168 = .ok (.iconst 1, 1) := dg_X8_search_142.2.2.2.2.2.2.2.2.2.2.2.2.2.2.1
theorem dX8_search_169 : decode cX8_search 169 = .ok (.isub, 1) := dg_X8_search_142.2.2.2.2.2.2.2.2.2.2.2.2.2.2.2
theorem dg_X8_search_170 : (decode cX8_search 170 = .ok (.istore 8, 2)) ∧ (decode cX8_search 172 = .ok (.goto (-79), 3)) ∧ (decode cX8_search 175 = .ok (.aload_n 0, 1)) ∧ (decode cX8_search 176 = .ok (.bipush (-100), 2)) ∧ (decode cX8_search 178 = .ok (.iload 7, 2)) ∧ (decode cX8_search 180 = .ok (.isub, 1)) ∧ (decode cX8_search 181 = .ok (.invokevirtual 183, 3)) ∧ (decode cX8_search 184 = .ok (.ireturn, 1)) := by decide +kernel
theorem dX8_search_170 : decode cX8_search 170 = .ok (.istore 8, 2) := dg_X8_search_170.1
theorem dX8_search_172 : decode cX8_search 172 = .ok (.goto (-79), 3) := dg_X8_search_170.2.1
theorem dX8_search_175 : decode cX8_search 175 = .ok (.aload_n 0, 1) := dg_X8_search_170.2.2.1
theorem dX8_search_176 : decode cX8_search 176 = .ok (.bipush (-100), 2) := dg_X8_search_170.2.2.2.1
theorem dX8_search_178 : decode cX8_search 178 = .ok (.iload 7, 2) := dg_X8_search_170.2.2.2.2.1
theorem dX8_search_180 : decode cX8_search 180 = .ok (.isub, 1) := dg_X8_search_170.2.2.2.2.2.1
theorem dX8_search_181 : decode cX8_search 181 = .ok (.invokevirtual 183, 3) := dg_X8_search_170.2.2.2.2.2.2.1
theorem dX8_search_184 : decode cX8_search 184 = .ok (.ireturn, 1) := dg_X8_search_170.2.2.2.2.2.2.2
def fn_my_search2 (na : Nat) (ne : Nat) (kdf : Nat → Int32) (dpf : Nat → Int32) (lnf : Nat → Int32) (saf : Nat → Int32) (btf : Nat → Int64) (x1 : Int32) (x2 : Int64) : Int32 := (if (fn_cm_isArray (nI na) x1) = 0 then -5 else (if (fn_cm_isBits (kdf x1.toNatClampNeg) x2) = 0 then -9 else (if (nI ((dpf x1.toNatClampNeg).toNatClampNeg)) ≤ 1 then (sp_bs (sp_rM (kdf x1.toNatClampNeg) btf ((saf x1.toNatClampNeg).toNatClampNeg)) (fn_cm_orderNumber (kdf x1.toNatClampNeg) (fn_cm_plain (kdf x1.toNatClampNeg) x2)) ((lnf x1.toNatClampNeg).toNatClampNeg) 0 ((lnf x1.toNatClampNeg).toNatClampNeg)) else -1)))
abbrev rm_my_search2 : Room := { frames := 2, cells := 0, slots := 0, locals := 47 }
abbrev po_my_search2 (g : zz_G) (h0 : Nat) (a_kindOf : Nat) (a_depthOf : Nat) (a_lengthOf : Nat) (a_classOf : Nat) (a_baseOf : Nat) (a_bits : Nat) (a_pinned : Nat) (a_lengths : Nat) (a_stackArray : Nat) (a_stackOther : Nat) (a_stackAt : Nat) (a_path : Nat) (a_held : Nat) (a_alike : Nat) (a_hashes : Nat) (a_decisionArray : Nat) (a_decisionPlace : Nat) (a_candidateMany : Nat) (a_candidates : Nat) (a_ruleSort : Nat) (a_ruleArray : Nat) (a_ruleWeight : Nat) (a_ruleLow : Nat) (a_ruleHigh : Nat) (a_chosen : Nat) (a_bestOf : Nat) (a_markElements : Nat) (a_markBits : Nat) (a_markPins : Nat) (na : Nat) (ne : Nat) (nd : Nat) (nr : Nat) (nm : Nat) (i_code : Int32) (i_lastArray : Int32) (i_lastPlace : Int32) (kdf : Nat → Int32) (dpf : Nat → Int32) (lnf : Nat → Int32) (saf : Nat → Int32) (btf : Nat → Int64) (x1 : Int32) (x2 : Int64) (h_S : zz_SI na ne dpf saf lnf) : Int32 → va_W → Prop := fun (r : Int32) (u : va_W) => ∃ (k_c : Int32) (k_a : Int32) (k_p : Int32), r = fn_my_search2 na ne kdf dpf lnf saf btf x1 x2 ∧ u = [cw_k7 h0 (nI na) (nI ne) a_kindOf a_depthOf a_lengthOf a_classOf a_baseOf a_bits a_pinned k_c a_lengths a_stackArray a_stackOther a_stackAt k_a k_p a_path a_held a_alike a_hashes (nI nd) a_decisionArray a_decisionPlace a_candidateMany a_candidates (nI nr) a_ruleSort a_ruleArray a_ruleWeight a_ruleLow a_ruleHigh a_chosen a_bestOf (nI nm) a_markElements a_markBits a_markPins, cw_i g a_kindOf 60 kdf, cw_i g a_depthOf 60 dpf, cw_i g a_lengthOf 60 lnf, cw_i g a_baseOf 60 saf, cw_l g a_bits 4000 btf]
set_option maxHeartbeats 4000000 in
set_option maxRecDepth 100000 in
theorem my_search2 (g : zz_G) (h0 : Nat) (a_kindOf : Nat) (a_depthOf : Nat) (a_lengthOf : Nat) (a_classOf : Nat) (a_baseOf : Nat) (a_bits : Nat) (a_pinned : Nat) (a_lengths : Nat) (a_stackArray : Nat) (a_stackOther : Nat) (a_stackAt : Nat) (a_path : Nat) (a_held : Nat) (a_alike : Nat) (a_hashes : Nat) (a_decisionArray : Nat) (a_decisionPlace : Nat) (a_candidateMany : Nat) (a_candidates : Nat) (a_ruleSort : Nat) (a_ruleArray : Nat) (a_ruleWeight : Nat) (a_ruleLow : Nat) (a_ruleHigh : Nat) (a_chosen : Nat) (a_bestOf : Nat) (a_markElements : Nat) (a_markBits : Nat) (a_markPins : Nat) (na : Nat) (ne : Nat) (nd : Nat) (nr : Nat) (nm : Nat) (i_code : Int32) (i_lastArray : Int32) (i_lastPlace : Int32) (kdf : Nat → Int32) (dpf : Nat → Int32) (lnf : Nat → Int32) (saf : Nat → Int32) (btf : Nat → Int64) (x1 : Int32) (x2 : Int64) (h_S : zz_SI na ne dpf saf lnf) : zz_I g yX8_search (.code yX8_search cX8_search 12 (some .int)) rm_my_search2 [.ref h0, .int x1, .long x2] [cw_k7 h0 (nI na) (nI ne) a_kindOf a_depthOf a_lengthOf a_classOf a_baseOf a_bits a_pinned i_code a_lengths a_stackArray a_stackOther a_stackAt i_lastArray i_lastPlace a_path a_held a_alike a_hashes (nI nd) a_decisionArray a_decisionPlace a_candidateMany a_candidates (nI nr) a_ruleSort a_ruleArray a_ruleWeight a_ruleLow a_ruleHigh a_chosen a_bestOf (nI nm) a_markElements a_markBits a_markPins, cw_i g a_kindOf 60 kdf, cw_i g a_depthOf 60 dpf, cw_i g a_lengthOf 60 lnf, cw_i g a_baseOf 60 saf, cw_l g a_bits 4000 btf] (po_my_search2 g h0 a_kindOf a_depthOf a_lengthOf a_classOf a_baseOf a_bits a_pinned a_lengths a_stackArray a_stackOther a_stackAt a_path a_held a_alike a_hashes a_decisionArray a_decisionPlace a_candidateMany a_candidates a_ruleSort a_ruleArray a_ruleWeight a_ruleLow a_ruleHigh a_chosen a_bestOf a_markElements a_markBits a_markPins na ne nd nr nm i_code i_lastArray i_lastPlace kdf dpf lnf saf btf x1 x2 h_S) := by
  refine zz_I.intro (own := RX8) (cc := cX8_search) (nL := 12) (by decide) rfl (Nat.le_of_ble_eq_true rfl) ?_
  intro p l e s m args below meth c A H locs ls hC hnm hs hZ hl
  obtain ⟨hx, hb, hml, hown, hts, hr, hlocks, hK⟩ := id hC
  have hl : lv_has ls 12 [(0, .ref h0), (1, .int x1), (2, .long x2)] := hl
  have hZ : zz_Z g A s.heap [cw_k7 h0 (nI na) (nI ne) a_kindOf a_depthOf a_lengthOf a_classOf a_baseOf a_bits a_pinned i_code a_lengths a_stackArray a_stackOther a_stackAt i_lastArray i_lastPlace a_path a_held a_alike a_hashes (nI nd) a_decisionArray a_decisionPlace a_candidateMany a_candidates (nI nr) a_ruleSort a_ruleArray a_ruleWeight a_ruleLow a_ruleHigh a_chosen a_bestOf (nI nm) a_markElements a_markBits a_markPins, cw_i g a_kindOf 60 kdf, cw_i g a_depthOf 60 dpf, cw_i g a_lengthOf 60 lnf, cw_i g a_baseOf 60 saf, cw_l g a_bits 4000 btf] H locs := hZ
  have hna := h_S.1
  have hne := h_S.2.1
  refine lv_aload_n hx hb dX8_search_0 rfl (lv_at hl 0 rfl) ?_
  refine lv_iload_n hx hb dX8_search_1 rfl (lv_at hl 1 rfl) ?_
  refine zz_iV (As := [.int x1]) (wc := [cw_k7 h0 (nI na) (nI ne) a_kindOf a_depthOf a_lengthOf a_classOf a_baseOf a_bits a_pinned i_code a_lengths a_stackArray a_stackOther a_stackAt i_lastArray i_lastPlace a_path a_held a_alike a_hashes (nI nd) a_decisionArray a_decisionPlace a_candidateMany a_candidates (nI nr) a_ruleSort a_ruleArray a_ruleWeight a_ruleLow a_ruleHigh a_chosen a_bestOf (nI nm) a_markElements a_markBits a_markPins]) (wr := [cw_i g a_kindOf 60 kdf, cw_i g a_depthOf 60 dpf, cw_i g a_lengthOf 60 lnf, cw_i g a_baseOf 60 saf, cw_l g a_bits 4000 btf]) (rest := []) hC hZ hs hl zc_X8_200 (cm_isArray g h0 a_kindOf a_depthOf a_lengthOf a_classOf a_baseOf a_bits a_pinned a_lengths a_stackArray a_stackOther a_stackAt a_path a_held a_alike a_hashes a_decisionArray a_decisionPlace a_candidateMany a_candidates a_ruleSort a_ruleArray a_ruleWeight a_ruleLow a_ruleHigh a_chosen a_bestOf a_markElements a_markBits a_markPins (nI na) (nI ne) i_code i_lastArray i_lastPlace (nI nd) (nI nr) (nI nm) x1) [0] [1, 2, 3, 4, 5] rfl rfl (by decide +kernel) (ci := 7) (q0 := 0) rfl rfl rfl rfl (Nat.le_of_ble_eq_true rfl) ⟨⟨Nat.le_of_ble_eq_true rfl, Nat.le_of_ble_eq_true rfl⟩, Nat.le_of_ble_eq_true rfl, Nat.le_of_ble_eq_true rfl⟩ dX8_search_2 (fun r1 u2 H locs hp hZ => ?_)
  obtain ⟨rfl, rfl⟩ := hp
  have hZ : zz_Z g A s.heap [cw_i g a_kindOf 60 kdf, cw_i g a_depthOf 60 dpf, cw_i g a_lengthOf 60 lnf, cw_i g a_baseOf 60 saf, cw_l g a_bits 4000 btf, cw_k7 h0 (nI na) (nI ne) a_kindOf a_depthOf a_lengthOf a_classOf a_baseOf a_bits a_pinned i_code a_lengths a_stackArray a_stackOther a_stackAt i_lastArray i_lastPlace a_path a_held a_alike a_hashes (nI nd) a_decisionArray a_decisionPlace a_candidateMany a_candidates (nI nr) a_ruleSort a_ruleArray a_ruleWeight a_ruleLow a_ruleHigh a_chosen a_bestOf (nI nm) a_markElements a_markBits a_markPins] H locs := hZ
  refine lv_if_ne (tgt := 12) hx hb dX8_search_5 (by decide) (fun c3 => ?_) (fun c3 => ?_)
  · obtain ⟨a1, ha1, ea1⟩ := zl_isA (by omega) c3
    have hl : lv_has ls 12 [(0, .ref h0), (1, .int (nI a1)), (2, .long x2)] := by rw [← ea1]; exact hl
    have bd4 : a1 < 2 ^ 31 := by omega
    have d_a1 : x1.toNatClampNeg = a1 := by rw [ea1]; exact nI_clamp bd4
    obtain ⟨sz1, lz1, dz1, es1, el1, ed1, g11, g21, g31, g41⟩ := h_S.2.2 a1 ha1
    have bd5 : sz1 < 2 ^ 31 := by omega
    have d_sz1 : (saf a1).toNatClampNeg = sz1 := by rw [es1]; exact nI_clamp bd5
    have bd6 : lz1 < 2 ^ 31 := by omega
    have d_lz1 : (lnf a1).toNatClampNeg = lz1 := by rw [el1]; exact nI_clamp bd6
    have bd7 : dz1 < 2 ^ 31 := by omega
    have d_dz1 : (dpf a1).toNatClampNeg = dz1 := by rw [ed1]; exact nI_clamp bd7
    refine lv_aload_n hx hb dX8_search_12 rfl (lv_at hl 0 rfl) ?_
    refine zz_get hC hZ 5 rfl zf_X8_7 rfl dX8_search_13 ?_
    refine lv_iload_n hx hb dX8_search_16 rfl (lv_at hl 1 rfl) ?_
    have bd8 : a1 < 60 := by omega
    refine zz_ialdn hC hZ 0 rfl bd8 (by decide) dX8_search_17 ?_
    refine lv_lload_n hx hb dX8_search_18 rfl (lv_at hl 2 rfl) ?_
    refine zz_iS (As := [.int (kdf a1), .long x2]) (wc := []) (wr := [cw_i g a_kindOf 60 kdf, cw_i g a_depthOf 60 dpf, cw_i g a_lengthOf 60 lnf, cw_i g a_baseOf 60 saf, cw_l g a_bits 4000 btf, cw_k7 h0 (nI na) (nI ne) a_kindOf a_depthOf a_lengthOf a_classOf a_baseOf a_bits a_pinned i_code a_lengths a_stackArray a_stackOther a_stackAt i_lastArray i_lastPlace a_path a_held a_alike a_hashes (nI nd) a_decisionArray a_decisionPlace a_candidateMany a_candidates (nI nr) a_ruleSort a_ruleArray a_ruleWeight a_ruleLow a_ruleHigh a_chosen a_bestOf (nI nm) a_markElements a_markBits a_markPins]) (rest := []) hC hZ hs hl zc_X8_230 (cm_isBits g (kdf a1) x2) [] [0, 1, 2, 3, 4, 5] rfl rfl (by decide +kernel) rfl rfl (Nat.le_of_ble_eq_true rfl) ⟨⟨Nat.le_of_ble_eq_true rfl, Nat.le_of_ble_eq_true rfl⟩, Nat.le_of_ble_eq_true rfl, Nat.le_of_ble_eq_true rfl⟩ dX8_search_19 (fun r9 u10 H locs hp hZ => ?_)
    obtain ⟨rfl, rfl⟩ := hp
    have hZ : zz_Z g A s.heap [cw_i g a_kindOf 60 kdf, cw_i g a_depthOf 60 dpf, cw_i g a_lengthOf 60 lnf, cw_i g a_baseOf 60 saf, cw_l g a_bits 4000 btf, cw_k7 h0 (nI na) (nI ne) a_kindOf a_depthOf a_lengthOf a_classOf a_baseOf a_bits a_pinned i_code a_lengths a_stackArray a_stackOther a_stackAt i_lastArray i_lastPlace a_path a_held a_alike a_hashes (nI nd) a_decisionArray a_decisionPlace a_candidateMany a_candidates (nI nr) a_ruleSort a_ruleArray a_ruleWeight a_ruleLow a_ruleHigh a_chosen a_bestOf (nI nm) a_markElements a_markBits a_markPins] H locs := hZ
    refine lv_if_ne (tgt := 30) hx hb dX8_search_22 (by decide) (fun c11 => ?_) (fun c11 => ?_)
    · refine lv_aload_n hx hb dX8_search_30 rfl (lv_at hl 0 rfl) ?_
      refine zz_get hC hZ 5 rfl zf_X8_13 rfl dX8_search_31 ?_
      refine lv_iload_n hx hb dX8_search_34 rfl (lv_at hl 1 rfl) ?_
      refine zz_ialdn hC hZ 1 rfl bd8 (by decide) dX8_search_35 ?_
      refine zz_topi (v := nI dz1) (ed1) ?_
      refine lv_iconst (v := 1) hx hb dX8_search_36 (by decide) ?_
      refine lv_icmp_le (tgt := 44) hx hb dX8_search_37 (by decide) (fun c12 => ?_) (fun c12 => ?_)
      · have nc12 : dz1 ≤ 1 := (nI_leI bd7 (by decide)).mp (show nI (dz1) ≤ nI (1) from c12)
        refine lv_iconst (v := 0) hx hb dX8_search_44 (by decide) ?_
        refine lv_istore (lv' := [(4, .int 0), (0, .ref h0), (1, .int (nI a1)), (2, .long x2)]) hx hb dX8_search_45 hl (by decide) rfl (fun ls hl => ?_)
        refine lv_iload hx hb dX8_search_47 (lv_at hl 0 rfl) ?_
        refine lv_if_le (tgt := 59) hx hb dX8_search_49 (by decide) (fun c13 => ?_) (fun c => absurd (by decide) c)
        refine lv_aload_n hx hb dX8_search_59 rfl (lv_at hl 1 rfl) ?_
        refine zz_get hC hZ 5 rfl zf_X8_7 rfl dX8_search_60 ?_
        refine lv_iload_n hx hb dX8_search_63 rfl (lv_at hl 2 rfl) ?_
        refine zz_ialdn hC hZ 0 rfl bd8 (by decide) dX8_search_64 ?_
        refine lv_aload_n hx hb dX8_search_65 rfl (lv_at hl 1 rfl) ?_
        refine zz_get hC hZ 5 rfl zf_X8_7 rfl dX8_search_66 ?_
        refine lv_iload_n hx hb dX8_search_69 rfl (lv_at hl 2 rfl) ?_
        refine zz_ialdn hC hZ 0 rfl bd8 (by decide) dX8_search_70 ?_
        refine lv_lload_n hx hb dX8_search_71 rfl (lv_at hl 3 rfl) ?_
        refine zz_lS (As := [.int (kdf a1), .long x2]) (wc := []) (wr := [cw_i g a_kindOf 60 kdf, cw_i g a_depthOf 60 dpf, cw_i g a_lengthOf 60 lnf, cw_i g a_baseOf 60 saf, cw_l g a_bits 4000 btf, cw_k7 h0 (nI na) (nI ne) a_kindOf a_depthOf a_lengthOf a_classOf a_baseOf a_bits a_pinned i_code a_lengths a_stackArray a_stackOther a_stackAt i_lastArray i_lastPlace a_path a_held a_alike a_hashes (nI nd) a_decisionArray a_decisionPlace a_candidateMany a_candidates (nI nr) a_ruleSort a_ruleArray a_ruleWeight a_ruleLow a_ruleHigh a_chosen a_bestOf (nI nm) a_markElements a_markBits a_markPins]) (rest := [.int (kdf a1)]) hC hZ hs hl zc_X8_150 (cm_plain g (kdf a1) x2) [] [0, 1, 2, 3, 4, 5] rfl rfl (by decide +kernel) rfl rfl (Nat.le_of_ble_eq_true rfl) ⟨⟨Nat.le_of_ble_eq_true rfl, Nat.le_of_ble_eq_true rfl⟩, Nat.le_of_ble_eq_true rfl, Nat.le_of_ble_eq_true rfl⟩ dX8_search_72 (fun r14 u15 H locs hp hZ => ?_)
        obtain ⟨rfl, rfl⟩ := hp
        have hZ : zz_Z g A s.heap [cw_i g a_kindOf 60 kdf, cw_i g a_depthOf 60 dpf, cw_i g a_lengthOf 60 lnf, cw_i g a_baseOf 60 saf, cw_l g a_bits 4000 btf, cw_k7 h0 (nI na) (nI ne) a_kindOf a_depthOf a_lengthOf a_classOf a_baseOf a_bits a_pinned i_code a_lengths a_stackArray a_stackOther a_stackAt i_lastArray i_lastPlace a_path a_held a_alike a_hashes (nI nd) a_decisionArray a_decisionPlace a_candidateMany a_candidates (nI nr) a_ruleSort a_ruleArray a_ruleWeight a_ruleLow a_ruleHigh a_chosen a_bestOf (nI nm) a_markElements a_markBits a_markPins] H locs := hZ
        refine zz_lS (As := [.int (kdf a1), .long (fn_cm_plain (kdf a1) x2)]) (wc := []) (wr := [cw_i g a_kindOf 60 kdf, cw_i g a_depthOf 60 dpf, cw_i g a_lengthOf 60 lnf, cw_i g a_baseOf 60 saf, cw_l g a_bits 4000 btf, cw_k7 h0 (nI na) (nI ne) a_kindOf a_depthOf a_lengthOf a_classOf a_baseOf a_bits a_pinned i_code a_lengths a_stackArray a_stackOther a_stackAt i_lastArray i_lastPlace a_path a_held a_alike a_hashes (nI nd) a_decisionArray a_decisionPlace a_candidateMany a_candidates (nI nr) a_ruleSort a_ruleArray a_ruleWeight a_ruleLow a_ruleHigh a_chosen a_bestOf (nI nm) a_markElements a_markBits a_markPins]) (rest := []) hC hZ hs hl zc_X8_239 (cm_orderNumber g (kdf a1) (fn_cm_plain (kdf a1) x2)) [] [0, 1, 2, 3, 4, 5] rfl rfl (by decide +kernel) rfl rfl (Nat.le_of_ble_eq_true rfl) ⟨⟨Nat.le_of_ble_eq_true rfl, Nat.le_of_ble_eq_true rfl⟩, Nat.le_of_ble_eq_true rfl, Nat.le_of_ble_eq_true rfl⟩ dX8_search_75 (fun r16 u17 H locs hp hZ => ?_)
        obtain ⟨rfl, rfl⟩ := hp
        have hZ : zz_Z g A s.heap [cw_i g a_kindOf 60 kdf, cw_i g a_depthOf 60 dpf, cw_i g a_lengthOf 60 lnf, cw_i g a_baseOf 60 saf, cw_l g a_bits 4000 btf, cw_k7 h0 (nI na) (nI ne) a_kindOf a_depthOf a_lengthOf a_classOf a_baseOf a_bits a_pinned i_code a_lengths a_stackArray a_stackOther a_stackAt i_lastArray i_lastPlace a_path a_held a_alike a_hashes (nI nd) a_decisionArray a_decisionPlace a_candidateMany a_candidates (nI nr) a_ruleSort a_ruleArray a_ruleWeight a_ruleLow a_ruleHigh a_chosen a_bestOf (nI nm) a_markElements a_markBits a_markPins] H locs := hZ
        refine lv_lstore (lv' := [(5, .long (fn_cm_orderNumber (kdf a1) (fn_cm_plain (kdf a1) x2))), (4, .int 0), (0, .ref h0), (1, .int (nI a1)), (2, .long x2)]) hx hb dX8_search_78 hl (by decide) rfl (fun ls hl => ?_)
        refine lv_iconst (v := 0) hx hb dX8_search_80 (by decide) ?_
        refine lv_istore (lv' := [(7, .int 0), (5, .long (fn_cm_orderNumber (kdf a1) (fn_cm_plain (kdf a1) x2))), (4, .int 0), (0, .ref h0), (1, .int (nI a1)), (2, .long x2)]) hx hb dX8_search_81 hl (by decide) rfl (fun ls hl => ?_)
        refine lv_aload_n hx hb dX8_search_83 rfl (lv_at hl 3 rfl) ?_
        refine zz_get hC hZ 5 rfl zf_X8_16 rfl dX8_search_84 ?_
        refine lv_iload_n hx hb dX8_search_87 rfl (lv_at hl 4 rfl) ?_
        refine zz_ialdn hC hZ 2 rfl bd8 (by decide) dX8_search_88 ?_
        refine zz_topi (v := nI lz1) (el1) ?_
        refine lv_iconst (v := 1) hx hb dX8_search_89 (by decide) ?_
        refine lv_isub hx hb dX8_search_90 ?_
        refine lv_istore (lv' := [(8, .int ((nI lz1) - 1)), (7, .int 0), (5, .long (fn_cm_orderNumber (kdf a1) (fn_cm_plain (kdf a1) x2))), (4, .int 0), (0, .ref h0), (1, .int (nI a1)), (2, .long x2)]) hx hb dX8_search_91 hl (by decide) rfl (fun ls hl => ?_)
        have LP18 : ∀ (N : Nat) (lo : Nat) (hh : Nat) (hv : Int32) (H : Heap) (locs : List Loc) (ls : Array Slot), (hv = nI hh + (-1)) → (lo ≤ hh) → (hh ≤ lz1) → (sp_bs (sp_rM (kdf a1) btf sz1) (fn_cm_orderNumber (kdf a1) (fn_cm_plain (kdf a1) x2)) lz1 0 lz1 = sp_bs (sp_rM (kdf a1) btf sz1) (fn_cm_orderNumber (kdf a1) (fn_cm_plain (kdf a1) x2)) (hh - lo) lo hh) → (hh - lo) < N → zz_Z g A s.heap [cw_i g a_kindOf 60 kdf, cw_i g a_depthOf 60 dpf, cw_i g a_lengthOf 60 lnf, cw_i g a_baseOf 60 saf, cw_l g a_bits 4000 btf, cw_k7 h0 (nI na) (nI ne) a_kindOf a_depthOf a_lengthOf a_classOf a_baseOf a_bits a_pinned i_code a_lengths a_stackArray a_stackOther a_stackAt i_lastArray i_lastPlace a_path a_held a_alike a_hashes (nI nd) a_decisionArray a_decisionPlace a_candidateMany a_candidates (nI nr) a_ruleSort a_ruleArray a_ruleWeight a_ruleLow a_ruleHigh a_chosen a_bestOf (nI nm) a_markElements a_markBits a_markPins] H locs → lv_has ls 12 [(8, .int hv), (7, .int (nI lo)), (5, .long (fn_cm_orderNumber (kdf a1) (fn_cm_plain (kdf a1) x2))), (4, .int 0), (0, .ref h0), (1, .int (nI a1)), (2, .long x2)] → W p l e rm_my_search2 s m args below meth c H locs 0 0 (zz_QI below g args s A rm_my_search2.cells rm_my_search2.slots (po_my_search2 g h0 a_kindOf a_depthOf a_lengthOf a_classOf a_baseOf a_bits a_pinned a_lengths a_stackArray a_stackOther a_stackAt a_path a_held a_alike a_hashes a_decisionArray a_decisionPlace a_candidateMany a_candidates a_ruleSort a_ruleArray a_ruleWeight a_ruleLow a_ruleHigh a_chosen a_bestOf a_markElements a_markBits a_markPins na ne nd nr nm i_code i_lastArray i_lastPlace kdf dpf lnf saf btf x1 x2 h_S)) (F0 m 93 ls []) := by
          intro N
          induction N with
          | zero =>
            intro lo hh hv H locs ls ehv hlo hhl hbs hN
            exact absurd hN (Nat.not_lt_zero _)
          | succ N ih =>
            intro lo hh hv H locs ls ehv hlo hhl hbs hN hZ hl
            refine lv_iload hx hb dX8_search_93 (lv_at hl 1 rfl) ?_
            refine lv_iload hx hb dX8_search_95 (lv_at hl 0 rfl) ?_
            refine lv_icmp_gt (tgt := 175) hx hb dX8_search_97 (by decide) (fun c19 => ?_) (fun c19 => ?_)
            · refine lv_aload_n hx hb dX8_search_175 rfl (lv_at hl 4 rfl) ?_
              refine lv_bipush (v := -100) hx hb dX8_search_176 (by decide) ?_
              refine lv_iload hx hb dX8_search_178 (lv_at hl 1 rfl) ?_
              refine lv_isub hx hb dX8_search_180 ?_
              obtain ⟨w, ew⟩ : ∃ w : Int32, (-100) - (nI lo) = w := ⟨_, rfl⟩
              refine zz_topi ew ?_
              have d_w : sp_bs (sp_rM (kdf a1) btf sz1) (fn_cm_orderNumber (kdf a1) (fn_cm_plain (kdf a1) x2)) lz1 0 lz1 = w := (hbs.trans (zl_hqN (zl_hvN ehv (by omega) (by omega) c19))).trans ew
              refine zz_iV (As := [.int w]) (wc := [cw_k7 h0 (nI na) (nI ne) a_kindOf a_depthOf a_lengthOf a_classOf a_baseOf a_bits a_pinned i_code a_lengths a_stackArray a_stackOther a_stackAt i_lastArray i_lastPlace a_path a_held a_alike a_hashes (nI nd) a_decisionArray a_decisionPlace a_candidateMany a_candidates (nI nr) a_ruleSort a_ruleArray a_ruleWeight a_ruleLow a_ruleHigh a_chosen a_bestOf (nI nm) a_markElements a_markBits a_markPins]) (wr := [cw_i g a_kindOf 60 kdf, cw_i g a_depthOf 60 dpf, cw_i g a_lengthOf 60 lnf, cw_i g a_baseOf 60 saf, cw_l g a_bits 4000 btf]) (rest := []) hC hZ hs hl zc_X8_183 (cm_fine g h0 a_kindOf a_depthOf a_lengthOf a_classOf a_baseOf a_bits a_pinned a_lengths a_stackArray a_stackOther a_stackAt a_path a_held a_alike a_hashes a_decisionArray a_decisionPlace a_candidateMany a_candidates a_ruleSort a_ruleArray a_ruleWeight a_ruleLow a_ruleHigh a_chosen a_bestOf a_markElements a_markBits a_markPins (nI na) (nI ne) i_code i_lastArray i_lastPlace (nI nd) (nI nr) (nI nm) w) [5] [0, 1, 2, 3, 4] rfl rfl (by decide +kernel) (ci := 7) (q0 := 0) rfl rfl rfl rfl (Nat.le_of_ble_eq_true rfl) ⟨⟨Nat.le_of_ble_eq_true rfl, Nat.le_of_ble_eq_true rfl⟩, Nat.le_of_ble_eq_true rfl, Nat.le_of_ble_eq_true rfl⟩ dX8_search_181 (fun r20 u21 H locs hp hZ => ?_)
              obtain ⟨rfl, rfl⟩ := hp
              have hZ : zz_Z g A s.heap [cw_i g a_kindOf 60 kdf, cw_i g a_depthOf 60 dpf, cw_i g a_lengthOf 60 lnf, cw_i g a_baseOf 60 saf, cw_l g a_bits 4000 btf, cw_k7 h0 (nI na) (nI ne) a_kindOf a_depthOf a_lengthOf a_classOf a_baseOf a_bits a_pinned 0 a_lengths a_stackArray a_stackOther a_stackAt i_lastArray i_lastPlace a_path a_held a_alike a_hashes (nI nd) a_decisionArray a_decisionPlace a_candidateMany a_candidates (nI nr) a_ruleSort a_ruleArray a_ruleWeight a_ruleLow a_ruleHigh a_chosen a_bestOf (nI nm) a_markElements a_markBits a_markPins] H locs := hZ
              have hZ : zz_Z g A s.heap [cw_k7 h0 (nI na) (nI ne) a_kindOf a_depthOf a_lengthOf a_classOf a_baseOf a_bits a_pinned 0 a_lengths a_stackArray a_stackOther a_stackAt i_lastArray i_lastPlace a_path a_held a_alike a_hashes (nI nd) a_decisionArray a_decisionPlace a_candidateMany a_candidates (nI nr) a_ruleSort a_ruleArray a_ruleWeight a_ruleLow a_ruleHigh a_chosen a_bestOf (nI nm) a_markElements a_markBits a_markPins, cw_i g a_kindOf 60 kdf, cw_i g a_depthOf 60 dpf, cw_i g a_lengthOf 60 lnf, cw_i g a_baseOf 60 saf, cw_l g a_bits 4000 btf] H locs := hZ.sub [5, 0, 1, 2, 3, 4] (by decide +kernel) rfl
              exact zz_iret hC hZ (⟨0, i_lastArray, i_lastPlace, by refine Eq.symm ?_; rw [fn_my_search2]; refine (if_neg (by (try simp only [d_a1, d_sz1, d_lz1, d_dz1, d_w]); exact c3)).trans ?_; refine (if_neg (by (try simp only [d_a1, d_sz1, d_lz1, d_dz1, d_w]); exact c11)).trans ?_; refine (if_pos (by (try simp only [d_a1, d_sz1, d_lz1, d_dz1, d_w]); exact c12)).trans ?_; first | (simp only [d_a1, d_sz1, d_lz1, d_dz1, d_w]; done) | rfl, rfl⟩) (Nat.le_of_ble_eq_true rfl) (Nat.le_of_ble_eq_true rfl) dX8_search_184
            · obtain ⟨K, rfl, hK1⟩ := zl_hv ehv (by omega) (by omega) c19
              have hl : lv_has ls 12 [(8, .int (nI K)), (7, .int (nI lo)), (5, .long (fn_cm_orderNumber (kdf a1) (fn_cm_plain (kdf a1) x2))), (4, .int 0), (0, .ref h0), (1, .int (nI a1)), (2, .long x2)] := by rw [← (ehv.trans (pk_m1 K))]; exact hl
              refine lv_iload hx hb dX8_search_100 (lv_at hl 1 rfl) ?_
              refine lv_iload hx hb dX8_search_102 (lv_at hl 0 rfl) ?_
              refine lv_iadd hx hb dX8_search_104 ?_
              refine zz_topi (v := nI (lo + K)) (nI_add _ _) ?_
              refine lv_iconst (v := 2) hx hb dX8_search_105 (by decide) ?_
              refine lv_idiv hx hb dX8_search_106 (by decide) ?_
              refine zz_topi (v := nI ((lo + K) / 2)) (zl_div2 (by omega)) ?_
              refine lv_istore (lv' := [(9, .int (nI ((lo + K) / 2))), (8, .int (nI K)), (7, .int (nI lo)), (5, .long (fn_cm_orderNumber (kdf a1) (fn_cm_plain (kdf a1) x2))), (4, .int 0), (0, .ref h0), (1, .int (nI a1)), (2, .long x2)]) hx hb dX8_search_107 hl (by decide) rfl (fun ls hl => ?_)
              refine lv_aload_n hx hb dX8_search_109 rfl (lv_at hl 5 rfl) ?_
              refine zz_get hC hZ 5 rfl zf_X8_7 rfl dX8_search_110 ?_
              refine lv_iload_n hx hb dX8_search_113 rfl (lv_at hl 6 rfl) ?_
              refine zz_ialdn hC hZ 0 rfl bd8 (by decide) dX8_search_114 ?_
              refine lv_aload_n hx hb dX8_search_115 rfl (lv_at hl 5 rfl) ?_
              refine zz_get hC hZ 5 rfl zf_X8_25 rfl dX8_search_116 ?_
              refine lv_aload_n hx hb dX8_search_119 rfl (lv_at hl 5 rfl) ?_
              refine zz_get hC hZ 5 rfl zf_X8_22 rfl dX8_search_120 ?_
              refine lv_iload_n hx hb dX8_search_123 rfl (lv_at hl 6 rfl) ?_
              refine zz_ialdn hC hZ 3 rfl bd8 (by decide) dX8_search_124 ?_
              refine zz_topi (v := nI sz1) (es1) ?_
              refine lv_iload hx hb dX8_search_125 (lv_at hl 0 rfl) ?_
              refine lv_iadd hx hb dX8_search_127 ?_
              refine zz_topi (v := nI (sz1 + ((lo + K) / 2))) (nI_add _ _) ?_
              have bd22 : (sz1 + ((lo + K) / 2)) < 4000 := by omega
              refine zz_laldn hC hZ 4 rfl bd22 (by decide) dX8_search_128 ?_
              refine zz_lS (As := [.int (kdf a1), .long (btf (sz1 + ((lo + K) / 2)))]) (wc := []) (wr := [cw_i g a_kindOf 60 kdf, cw_i g a_depthOf 60 dpf, cw_i g a_lengthOf 60 lnf, cw_i g a_baseOf 60 saf, cw_l g a_bits 4000 btf, cw_k7 h0 (nI na) (nI ne) a_kindOf a_depthOf a_lengthOf a_classOf a_baseOf a_bits a_pinned i_code a_lengths a_stackArray a_stackOther a_stackAt i_lastArray i_lastPlace a_path a_held a_alike a_hashes (nI nd) a_decisionArray a_decisionPlace a_candidateMany a_candidates (nI nr) a_ruleSort a_ruleArray a_ruleWeight a_ruleLow a_ruleHigh a_chosen a_bestOf (nI nm) a_markElements a_markBits a_markPins]) (rest := []) hC hZ hs hl zc_X8_239 (cm_orderNumber g (kdf a1) (btf (sz1 + ((lo + K) / 2)))) [] [0, 1, 2, 3, 4, 5] rfl rfl (by decide +kernel) rfl rfl (Nat.le_of_ble_eq_true rfl) ⟨⟨Nat.le_of_ble_eq_true rfl, Nat.le_of_ble_eq_true rfl⟩, Nat.le_of_ble_eq_true rfl, Nat.le_of_ble_eq_true rfl⟩ dX8_search_129 (fun r23 u24 H locs hp hZ => ?_)
              obtain ⟨rfl, rfl⟩ := hp
              have hZ : zz_Z g A s.heap [cw_i g a_kindOf 60 kdf, cw_i g a_depthOf 60 dpf, cw_i g a_lengthOf 60 lnf, cw_i g a_baseOf 60 saf, cw_l g a_bits 4000 btf, cw_k7 h0 (nI na) (nI ne) a_kindOf a_depthOf a_lengthOf a_classOf a_baseOf a_bits a_pinned i_code a_lengths a_stackArray a_stackOther a_stackAt i_lastArray i_lastPlace a_path a_held a_alike a_hashes (nI nd) a_decisionArray a_decisionPlace a_candidateMany a_candidates (nI nr) a_ruleSort a_ruleArray a_ruleWeight a_ruleLow a_ruleHigh a_chosen a_bestOf (nI nm) a_markElements a_markBits a_markPins] H locs := hZ
              refine lv_lstore (lv' := [(10, .long (fn_cm_orderNumber (kdf a1) (btf (sz1 + ((lo + K) / 2))))), (9, .int (nI ((lo + K) / 2))), (8, .int (nI K)), (7, .int (nI lo)), (5, .long (fn_cm_orderNumber (kdf a1) (fn_cm_plain (kdf a1) x2))), (4, .int 0), (0, .ref h0), (1, .int (nI a1)), (2, .long x2)]) hx hb dX8_search_132 hl (by decide) rfl (fun ls hl => ?_)
              refine lv_lload hx hb dX8_search_134 (lv_at hl 0 rfl) ?_
              refine lv_lload hx hb dX8_search_136 (lv_at hl 4 rfl) ?_
              refine zz_lcmp_ne (tgt := 149) hC dX8_search_138 dX8_search_139 (by decide) (fun c25 => ?_) (fun c25 => ?_)
              · refine lv_lload hx hb dX8_search_149 (lv_at hl 0 rfl) ?_
                refine lv_lload hx hb dX8_search_151 (lv_at hl 4 rfl) ?_
                refine zz_lcmp_ge (tgt := 166) hC dX8_search_153 dX8_search_154 (by decide) (fun c26 => ?_) (fun c26 => ?_)
                · refine lv_iload hx hb dX8_search_166 (lv_at hl 1 rfl) ?_
                  refine lv_iconst (v := 1) hx hb dX8_search_168 (by decide) ?_
                  refine lv_isub hx hb dX8_search_169 ?_
                  refine lv_istore (lv' := [(8, .int ((nI ((lo + K) / 2)) - 1)), (10, .long (fn_cm_orderNumber (kdf a1) (btf (sz1 + ((lo + K) / 2))))), (9, .int (nI ((lo + K) / 2))), (7, .int (nI lo)), (5, .long (fn_cm_orderNumber (kdf a1) (fn_cm_plain (kdf a1) x2))), (4, .int 0), (0, .ref h0), (1, .int (nI a1)), (2, .long x2)]) hx hb dX8_search_170 hl (by decide) rfl (fun ls hl => ?_)
                  refine lv_goto (tgt := 93) hx hb dX8_search_172 (by decide) ?_
                  exact ih lo ((lo + K) / 2) ((nI ((lo + K) / 2)) - 1) H locs ls (zl_sub1 _) (by omega) (by omega) (hbs.trans (zl_hqG (R := sp_rM (kdf a1) btf sz1) (v := fn_cm_orderNumber (kdf a1) (fn_cm_plain (kdf a1) x2)) hK1 c25 c26)) (by omega) hZ (lv_sub hl [0, 3, 4, 5, 6, 7, 8] rfl)
                · refine lv_iload hx hb dX8_search_157 (lv_at hl 1 rfl) ?_
                  refine lv_iconst (v := 1) hx hb dX8_search_159 (by decide) ?_
                  refine lv_iadd hx hb dX8_search_160 ?_
                  refine zz_topi (v := nI (((lo + K) / 2) + 1)) (nI_1 _) ?_
                  refine lv_istore (lv' := [(7, .int (nI (((lo + K) / 2) + 1))), (10, .long (fn_cm_orderNumber (kdf a1) (btf (sz1 + ((lo + K) / 2))))), (9, .int (nI ((lo + K) / 2))), (8, .int (nI K)), (5, .long (fn_cm_orderNumber (kdf a1) (fn_cm_plain (kdf a1) x2))), (4, .int 0), (0, .ref h0), (1, .int (nI a1)), (2, .long x2)]) hx hb dX8_search_161 hl (by decide) rfl (fun ls hl => ?_)
                  refine lv_goto (tgt := 172) hx hb dX8_search_163 (by decide) ?_
                  refine lv_goto (tgt := 93) hx hb dX8_search_172 (by decide) ?_
                  exact ih (((lo + K) / 2) + 1) (K + 1) (nI K) H locs ls ((pk_m1 K).symm) (by omega) (by omega) (hbs.trans (zl_hqL (R := sp_rM (kdf a1) btf sz1) (v := fn_cm_orderNumber (kdf a1) (fn_cm_plain (kdf a1) x2)) hK1 c25 c26)) (by omega) hZ (lv_sub hl [3, 0, 4, 5, 6, 7, 8] rfl)
              · refine lv_aload_n hx hb dX8_search_142 rfl (lv_at hl 6 rfl) ?_
                refine lv_iload hx hb dX8_search_143 (lv_at hl 1 rfl) ?_
                obtain ⟨w, ew⟩ : ∃ w : Int32, nI ((lo + K) / 2) = w := ⟨_, rfl⟩
                refine zz_topi ew ?_
                have d_w : sp_bs (sp_rM (kdf a1) btf sz1) (fn_cm_orderNumber (kdf a1) (fn_cm_plain (kdf a1) x2)) lz1 0 lz1 = w := (hbs.trans (zl_hqE (R := sp_rM (kdf a1) btf sz1) (v := fn_cm_orderNumber (kdf a1) (fn_cm_plain (kdf a1) x2)) hK1 c25)).trans ew
                refine zz_iV (As := [.int w]) (wc := [cw_k7 h0 (nI na) (nI ne) a_kindOf a_depthOf a_lengthOf a_classOf a_baseOf a_bits a_pinned i_code a_lengths a_stackArray a_stackOther a_stackAt i_lastArray i_lastPlace a_path a_held a_alike a_hashes (nI nd) a_decisionArray a_decisionPlace a_candidateMany a_candidates (nI nr) a_ruleSort a_ruleArray a_ruleWeight a_ruleLow a_ruleHigh a_chosen a_bestOf (nI nm) a_markElements a_markBits a_markPins]) (wr := [cw_i g a_kindOf 60 kdf, cw_i g a_depthOf 60 dpf, cw_i g a_lengthOf 60 lnf, cw_i g a_baseOf 60 saf, cw_l g a_bits 4000 btf]) (rest := []) hC hZ hs hl zc_X8_183 (cm_fine g h0 a_kindOf a_depthOf a_lengthOf a_classOf a_baseOf a_bits a_pinned a_lengths a_stackArray a_stackOther a_stackAt a_path a_held a_alike a_hashes a_decisionArray a_decisionPlace a_candidateMany a_candidates a_ruleSort a_ruleArray a_ruleWeight a_ruleLow a_ruleHigh a_chosen a_bestOf a_markElements a_markBits a_markPins (nI na) (nI ne) i_code i_lastArray i_lastPlace (nI nd) (nI nr) (nI nm) w) [5] [0, 1, 2, 3, 4] rfl rfl (by decide +kernel) (ci := 7) (q0 := 0) rfl rfl rfl rfl (Nat.le_of_ble_eq_true rfl) ⟨⟨Nat.le_of_ble_eq_true rfl, Nat.le_of_ble_eq_true rfl⟩, Nat.le_of_ble_eq_true rfl, Nat.le_of_ble_eq_true rfl⟩ dX8_search_145 (fun r27 u28 H locs hp hZ => ?_)
                obtain ⟨rfl, rfl⟩ := hp
                have hZ : zz_Z g A s.heap [cw_i g a_kindOf 60 kdf, cw_i g a_depthOf 60 dpf, cw_i g a_lengthOf 60 lnf, cw_i g a_baseOf 60 saf, cw_l g a_bits 4000 btf, cw_k7 h0 (nI na) (nI ne) a_kindOf a_depthOf a_lengthOf a_classOf a_baseOf a_bits a_pinned 0 a_lengths a_stackArray a_stackOther a_stackAt i_lastArray i_lastPlace a_path a_held a_alike a_hashes (nI nd) a_decisionArray a_decisionPlace a_candidateMany a_candidates (nI nr) a_ruleSort a_ruleArray a_ruleWeight a_ruleLow a_ruleHigh a_chosen a_bestOf (nI nm) a_markElements a_markBits a_markPins] H locs := hZ
                have hZ : zz_Z g A s.heap [cw_k7 h0 (nI na) (nI ne) a_kindOf a_depthOf a_lengthOf a_classOf a_baseOf a_bits a_pinned 0 a_lengths a_stackArray a_stackOther a_stackAt i_lastArray i_lastPlace a_path a_held a_alike a_hashes (nI nd) a_decisionArray a_decisionPlace a_candidateMany a_candidates (nI nr) a_ruleSort a_ruleArray a_ruleWeight a_ruleLow a_ruleHigh a_chosen a_bestOf (nI nm) a_markElements a_markBits a_markPins, cw_i g a_kindOf 60 kdf, cw_i g a_depthOf 60 dpf, cw_i g a_lengthOf 60 lnf, cw_i g a_baseOf 60 saf, cw_l g a_bits 4000 btf] H locs := hZ.sub [5, 0, 1, 2, 3, 4] (by decide +kernel) rfl
                exact zz_iret hC hZ (⟨0, i_lastArray, i_lastPlace, by refine Eq.symm ?_; rw [fn_my_search2]; refine (if_neg (by (try simp only [d_a1, d_sz1, d_lz1, d_dz1, d_w]); exact c3)).trans ?_; refine (if_neg (by (try simp only [d_a1, d_sz1, d_lz1, d_dz1, d_w]); exact c11)).trans ?_; refine (if_pos (by (try simp only [d_a1, d_sz1, d_lz1, d_dz1, d_w]); exact c12)).trans ?_; first | (simp only [d_a1, d_sz1, d_lz1, d_dz1, d_w]; done) | rfl, rfl⟩) (Nat.le_of_ble_eq_true rfl) (Nat.le_of_ble_eq_true rfl) dX8_search_148
        exact LP18 _ 0 lz1 ((nI lz1) - 1) H locs ls (zl_sub1 _) (by omega) (by omega) (rfl) (Nat.lt_succ_self _) hZ (lv_sub hl [0, 1, 2, 3, 4, 5, 6] rfl)
      · have nc12 : ¬ dz1 ≤ 1 := fun zq => c12 (show nI (dz1) ≤ nI (1) from (nI_leI bd7 (by decide)).mpr zq)
        refine lv_iconst (v := 1) hx hb dX8_search_40 (by decide) ?_
        refine lv_goto (tgt := 45) hx hb dX8_search_41 (by decide) ?_
        refine lv_istore (lv' := [(4, .int 1), (0, .ref h0), (1, .int (nI a1)), (2, .long x2)]) hx hb dX8_search_45 hl (by decide) rfl (fun ls hl => ?_)
        refine lv_iload hx hb dX8_search_47 (lv_at hl 0 rfl) ?_
        refine lv_if_le (tgt := 59) hx hb dX8_search_49 (by decide) (fun c => absurd c (by decide)) (fun c29 => ?_)
        refine lv_aload_n hx hb dX8_search_52 rfl (lv_at hl 1 rfl) ?_
        refine lv_iload hx hb dX8_search_53 (lv_at hl 0 rfl) ?_
        refine zz_iV (As := [.int 1]) (wc := [cw_k7 h0 (nI na) (nI ne) a_kindOf a_depthOf a_lengthOf a_classOf a_baseOf a_bits a_pinned i_code a_lengths a_stackArray a_stackOther a_stackAt i_lastArray i_lastPlace a_path a_held a_alike a_hashes (nI nd) a_decisionArray a_decisionPlace a_candidateMany a_candidates (nI nr) a_ruleSort a_ruleArray a_ruleWeight a_ruleLow a_ruleHigh a_chosen a_bestOf (nI nm) a_markElements a_markBits a_markPins]) (wr := [cw_i g a_kindOf 60 kdf, cw_i g a_depthOf 60 dpf, cw_i g a_lengthOf 60 lnf, cw_i g a_baseOf 60 saf, cw_l g a_bits 4000 btf]) (rest := []) hC hZ hs hl zc_X8_175 (cm_fails g h0 a_kindOf a_depthOf a_lengthOf a_classOf a_baseOf a_bits a_pinned a_lengths a_stackArray a_stackOther a_stackAt a_path a_held a_alike a_hashes a_decisionArray a_decisionPlace a_candidateMany a_candidates a_ruleSort a_ruleArray a_ruleWeight a_ruleLow a_ruleHigh a_chosen a_bestOf a_markElements a_markBits a_markPins (nI na) (nI ne) i_code i_lastArray i_lastPlace (nI nd) (nI nr) (nI nm) 1) [5] [0, 1, 2, 3, 4] rfl rfl (by decide +kernel) (ci := 7) (q0 := 0) rfl rfl rfl rfl (Nat.le_of_ble_eq_true rfl) ⟨⟨Nat.le_of_ble_eq_true rfl, Nat.le_of_ble_eq_true rfl⟩, Nat.le_of_ble_eq_true rfl, Nat.le_of_ble_eq_true rfl⟩ dX8_search_55 (fun r30 u31 H locs hp hZ => ?_)
        obtain ⟨rfl, rfl⟩ := hp
        have hZ : zz_Z g A s.heap [cw_i g a_kindOf 60 kdf, cw_i g a_depthOf 60 dpf, cw_i g a_lengthOf 60 lnf, cw_i g a_baseOf 60 saf, cw_l g a_bits 4000 btf, cw_k7 h0 (nI na) (nI ne) a_kindOf a_depthOf a_lengthOf a_classOf a_baseOf a_bits a_pinned 1 a_lengths a_stackArray a_stackOther a_stackAt i_lastArray i_lastPlace a_path a_held a_alike a_hashes (nI nd) a_decisionArray a_decisionPlace a_candidateMany a_candidates (nI nr) a_ruleSort a_ruleArray a_ruleWeight a_ruleLow a_ruleHigh a_chosen a_bestOf (nI nm) a_markElements a_markBits a_markPins] H locs := hZ
        have hZ : zz_Z g A s.heap [cw_k7 h0 (nI na) (nI ne) a_kindOf a_depthOf a_lengthOf a_classOf a_baseOf a_bits a_pinned 1 a_lengths a_stackArray a_stackOther a_stackAt i_lastArray i_lastPlace a_path a_held a_alike a_hashes (nI nd) a_decisionArray a_decisionPlace a_candidateMany a_candidates (nI nr) a_ruleSort a_ruleArray a_ruleWeight a_ruleLow a_ruleHigh a_chosen a_bestOf (nI nm) a_markElements a_markBits a_markPins, cw_i g a_kindOf 60 kdf, cw_i g a_depthOf 60 dpf, cw_i g a_lengthOf 60 lnf, cw_i g a_baseOf 60 saf, cw_l g a_bits 4000 btf] H locs := hZ.sub [5, 0, 1, 2, 3, 4] (by decide +kernel) rfl
        exact zz_iret hC hZ (⟨1, i_lastArray, i_lastPlace, by refine Eq.symm ?_; rw [fn_my_search2]; refine (if_neg (by (try simp only [d_a1, d_sz1, d_lz1, d_dz1]); exact c3)).trans ?_; refine (if_neg (by (try simp only [d_a1, d_sz1, d_lz1, d_dz1]); exact c11)).trans ?_; refine (if_neg (by (try simp only [d_a1, d_sz1, d_lz1, d_dz1]); exact c12)).trans ?_; first | (simp only [d_a1, d_sz1, d_lz1, d_dz1]; done) | rfl, rfl⟩) (Nat.le_of_ble_eq_true rfl) (Nat.le_of_ble_eq_true rfl) dX8_search_58
    · refine lv_bipush (v := 9) hx hb dX8_search_25 (by decide) ?_
      refine lv_goto (tgt := 45) hx hb dX8_search_27 (by decide) ?_
      refine lv_istore (lv' := [(4, .int 9), (0, .ref h0), (1, .int (nI a1)), (2, .long x2)]) hx hb dX8_search_45 hl (by decide) rfl (fun ls hl => ?_)
      refine lv_iload hx hb dX8_search_47 (lv_at hl 0 rfl) ?_
      refine lv_if_le (tgt := 59) hx hb dX8_search_49 (by decide) (fun c => absurd c (by decide)) (fun c32 => ?_)
      refine lv_aload_n hx hb dX8_search_52 rfl (lv_at hl 1 rfl) ?_
      refine lv_iload hx hb dX8_search_53 (lv_at hl 0 rfl) ?_
      refine zz_iV (As := [.int 9]) (wc := [cw_k7 h0 (nI na) (nI ne) a_kindOf a_depthOf a_lengthOf a_classOf a_baseOf a_bits a_pinned i_code a_lengths a_stackArray a_stackOther a_stackAt i_lastArray i_lastPlace a_path a_held a_alike a_hashes (nI nd) a_decisionArray a_decisionPlace a_candidateMany a_candidates (nI nr) a_ruleSort a_ruleArray a_ruleWeight a_ruleLow a_ruleHigh a_chosen a_bestOf (nI nm) a_markElements a_markBits a_markPins]) (wr := [cw_i g a_kindOf 60 kdf, cw_i g a_depthOf 60 dpf, cw_i g a_lengthOf 60 lnf, cw_i g a_baseOf 60 saf, cw_l g a_bits 4000 btf]) (rest := []) hC hZ hs hl zc_X8_175 (cm_fails g h0 a_kindOf a_depthOf a_lengthOf a_classOf a_baseOf a_bits a_pinned a_lengths a_stackArray a_stackOther a_stackAt a_path a_held a_alike a_hashes a_decisionArray a_decisionPlace a_candidateMany a_candidates a_ruleSort a_ruleArray a_ruleWeight a_ruleLow a_ruleHigh a_chosen a_bestOf a_markElements a_markBits a_markPins (nI na) (nI ne) i_code i_lastArray i_lastPlace (nI nd) (nI nr) (nI nm) 9) [5] [0, 1, 2, 3, 4] rfl rfl (by decide +kernel) (ci := 7) (q0 := 0) rfl rfl rfl rfl (Nat.le_of_ble_eq_true rfl) ⟨⟨Nat.le_of_ble_eq_true rfl, Nat.le_of_ble_eq_true rfl⟩, Nat.le_of_ble_eq_true rfl, Nat.le_of_ble_eq_true rfl⟩ dX8_search_55 (fun r33 u34 H locs hp hZ => ?_)
      obtain ⟨rfl, rfl⟩ := hp
      have hZ : zz_Z g A s.heap [cw_i g a_kindOf 60 kdf, cw_i g a_depthOf 60 dpf, cw_i g a_lengthOf 60 lnf, cw_i g a_baseOf 60 saf, cw_l g a_bits 4000 btf, cw_k7 h0 (nI na) (nI ne) a_kindOf a_depthOf a_lengthOf a_classOf a_baseOf a_bits a_pinned 9 a_lengths a_stackArray a_stackOther a_stackAt i_lastArray i_lastPlace a_path a_held a_alike a_hashes (nI nd) a_decisionArray a_decisionPlace a_candidateMany a_candidates (nI nr) a_ruleSort a_ruleArray a_ruleWeight a_ruleLow a_ruleHigh a_chosen a_bestOf (nI nm) a_markElements a_markBits a_markPins] H locs := hZ
      have hZ : zz_Z g A s.heap [cw_k7 h0 (nI na) (nI ne) a_kindOf a_depthOf a_lengthOf a_classOf a_baseOf a_bits a_pinned 9 a_lengths a_stackArray a_stackOther a_stackAt i_lastArray i_lastPlace a_path a_held a_alike a_hashes (nI nd) a_decisionArray a_decisionPlace a_candidateMany a_candidates (nI nr) a_ruleSort a_ruleArray a_ruleWeight a_ruleLow a_ruleHigh a_chosen a_bestOf (nI nm) a_markElements a_markBits a_markPins, cw_i g a_kindOf 60 kdf, cw_i g a_depthOf 60 dpf, cw_i g a_lengthOf 60 lnf, cw_i g a_baseOf 60 saf, cw_l g a_bits 4000 btf] H locs := hZ.sub [5, 0, 1, 2, 3, 4] (by decide +kernel) rfl
      exact zz_iret hC hZ (⟨9, i_lastArray, i_lastPlace, by refine Eq.symm ?_; rw [fn_my_search2]; refine (if_neg (by (try simp only [d_a1, d_sz1, d_lz1, d_dz1]); exact c3)).trans ?_; refine (if_pos (by (try simp only [d_a1, d_sz1, d_lz1, d_dz1]); exact c11)).trans ?_; first | (simp only [d_a1, d_sz1, d_lz1, d_dz1]; done) | rfl, rfl⟩) (Nat.le_of_ble_eq_true rfl) (Nat.le_of_ble_eq_true rfl) dX8_search_58
  · refine lv_iconst (v := 5) hx hb dX8_search_8 (by decide) ?_
    refine lv_goto (tgt := 45) hx hb dX8_search_9 (by decide) ?_
    refine lv_istore (lv' := [(4, .int 5), (0, .ref h0), (1, .int x1), (2, .long x2)]) hx hb dX8_search_45 hl (by decide) rfl (fun ls hl => ?_)
    refine lv_iload hx hb dX8_search_47 (lv_at hl 0 rfl) ?_
    refine lv_if_le (tgt := 59) hx hb dX8_search_49 (by decide) (fun c => absurd c (by decide)) (fun c35 => ?_)
    refine lv_aload_n hx hb dX8_search_52 rfl (lv_at hl 1 rfl) ?_
    refine lv_iload hx hb dX8_search_53 (lv_at hl 0 rfl) ?_
    refine zz_iV (As := [.int 5]) (wc := [cw_k7 h0 (nI na) (nI ne) a_kindOf a_depthOf a_lengthOf a_classOf a_baseOf a_bits a_pinned i_code a_lengths a_stackArray a_stackOther a_stackAt i_lastArray i_lastPlace a_path a_held a_alike a_hashes (nI nd) a_decisionArray a_decisionPlace a_candidateMany a_candidates (nI nr) a_ruleSort a_ruleArray a_ruleWeight a_ruleLow a_ruleHigh a_chosen a_bestOf (nI nm) a_markElements a_markBits a_markPins]) (wr := [cw_i g a_kindOf 60 kdf, cw_i g a_depthOf 60 dpf, cw_i g a_lengthOf 60 lnf, cw_i g a_baseOf 60 saf, cw_l g a_bits 4000 btf]) (rest := []) hC hZ hs hl zc_X8_175 (cm_fails g h0 a_kindOf a_depthOf a_lengthOf a_classOf a_baseOf a_bits a_pinned a_lengths a_stackArray a_stackOther a_stackAt a_path a_held a_alike a_hashes a_decisionArray a_decisionPlace a_candidateMany a_candidates a_ruleSort a_ruleArray a_ruleWeight a_ruleLow a_ruleHigh a_chosen a_bestOf a_markElements a_markBits a_markPins (nI na) (nI ne) i_code i_lastArray i_lastPlace (nI nd) (nI nr) (nI nm) 5) [5] [0, 1, 2, 3, 4] rfl rfl (by decide +kernel) (ci := 7) (q0 := 0) rfl rfl rfl rfl (Nat.le_of_ble_eq_true rfl) ⟨⟨Nat.le_of_ble_eq_true rfl, Nat.le_of_ble_eq_true rfl⟩, Nat.le_of_ble_eq_true rfl, Nat.le_of_ble_eq_true rfl⟩ dX8_search_55 (fun r36 u37 H locs hp hZ => ?_)
    obtain ⟨rfl, rfl⟩ := hp
    have hZ : zz_Z g A s.heap [cw_i g a_kindOf 60 kdf, cw_i g a_depthOf 60 dpf, cw_i g a_lengthOf 60 lnf, cw_i g a_baseOf 60 saf, cw_l g a_bits 4000 btf, cw_k7 h0 (nI na) (nI ne) a_kindOf a_depthOf a_lengthOf a_classOf a_baseOf a_bits a_pinned 5 a_lengths a_stackArray a_stackOther a_stackAt i_lastArray i_lastPlace a_path a_held a_alike a_hashes (nI nd) a_decisionArray a_decisionPlace a_candidateMany a_candidates (nI nr) a_ruleSort a_ruleArray a_ruleWeight a_ruleLow a_ruleHigh a_chosen a_bestOf (nI nm) a_markElements a_markBits a_markPins] H locs := hZ
    have hZ : zz_Z g A s.heap [cw_k7 h0 (nI na) (nI ne) a_kindOf a_depthOf a_lengthOf a_classOf a_baseOf a_bits a_pinned 5 a_lengths a_stackArray a_stackOther a_stackAt i_lastArray i_lastPlace a_path a_held a_alike a_hashes (nI nd) a_decisionArray a_decisionPlace a_candidateMany a_candidates (nI nr) a_ruleSort a_ruleArray a_ruleWeight a_ruleLow a_ruleHigh a_chosen a_bestOf (nI nm) a_markElements a_markBits a_markPins, cw_i g a_kindOf 60 kdf, cw_i g a_depthOf 60 dpf, cw_i g a_lengthOf 60 lnf, cw_i g a_baseOf 60 saf, cw_l g a_bits 4000 btf] H locs := hZ.sub [5, 0, 1, 2, 3, 4] (by decide +kernel) rfl
    exact zz_iret hC hZ (⟨5, i_lastArray, i_lastPlace, by show _ = _; rw [fn_my_search2]; rw [if_pos c3], rfl⟩) (Nat.le_of_ble_eq_true rfl) (Nat.le_of_ble_eq_true rfl) dX8_search_58
