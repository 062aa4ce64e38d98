def ilen : Instr → Nat
  | .iload _ => 2
  | .aload _ => 2
  | .lload _ => 2
  | .dload _ => 2
  | .istore _ => 2
  | .astore _ => 2
  | .lstore _ => 2
  | .dstore _ => 2
  | .bipush _ => 2
  | .sipush _ => 3
  | .ldc _ => 2
  | .iinc _ _ => 3
  | .ifCond _ _ => 3
  | .if_icmp _ _ => 3
  | .goto _ => 3
  | .getfield _ => 3
  | .putfield _ => 3
  | .new _ => 3
  | .newarray _ => 2
  | .anewarray _ => 3
  | .invokevirtual _ => 3
  | .invokestatic _ => 3
  | .invokespecial _ => 3
  | .tableswitch _ _ _ _ => 0
  | _ => 1
def lok (q : Nat × En) : Bool := ilen q.2.1 == 0 || q.2.2.1 == q.1 + ilen q.2.1
set_option maxRecDepth 100000 in
theorem lok_all : ((List.range 167).all fun z => (tb z).all lok) = true := by decide +kernel
theorem lookup_mem {α : Type} {l : List (Nat × α)} {k : Nat} {v : α} (h : l.lookup k = some v) : (k, v) ∈ l := by
  induction l with
  | nil => cases h
  | cons a l ih =>
    obtain ⟨k2, v2⟩ := a
    simp only [List.lookup] at h
    split at h
    · rename_i he
      cases h
      have := (beq_iff_eq).mp he
      subst this
      exact List.mem_cons_self
    · exact List.mem_cons_of_mem _ (ih h)
theorem tb_big {z : Nat} (h : 167 ≤ z) : tb z = [] := by
  have hl : tbL.length = 167 := by decide +kernel
  unfold tb
  rw [List.getD_eq_getElem?_getD, List.getElem?_eq_none (by omega)]
  rfl
theorem vk {z pc : Nat} {e : En} (h : ins z pc = some e) : z < 167 ∧ vld z pc e = true := by
  by_cases hz : z < 167
  · have h1 : (tb z).all (fun q => vld z q.1 q.2) = true := vka_u167 z hz
    have h2 : (tb z).lookup pc = some e := h
    have h3 := List.all_eq_true.mp h1 (pc, e) (lookup_mem h2)
    exact ⟨hz, h3⟩
  · unfold ins at h
    rw [tb_big (by omega)] at h
    cases h
theorem vlen {z pc : Nat} {i : Instr} {nx p q r : Nat} {x : Int32} (h : ins z pc = some (i, nx, p, q, r, x)) (hi : ilen i ≠ 0) : nx = pc + ilen i := by
  have hz := (vk h).1
  have h1 := List.all_eq_true.mp lok_all z (List.mem_range.mpr hz)
  have h2 : (tb z).lookup pc = some (i, nx, p, q, r, x) := h
  have h3 := List.all_eq_true.mp h1 (pc, i, nx, p, q, r, x) (lookup_mem h2)
  have h4 : (ilen i == 0 || nx == pc + ilen i) = true := h3
  simp only [Bool.or_eq_true, beq_iff_eq] at h4
  rcases h4 with h4 | h4
  · exact absurd h4 hi
  · exact h4
def GW : List Cond := lw_tbl.filter goodWord
def mem_by {L : List Cond} (ws : List Cond) (ps : List Nat) (hp : ws = ps.filterMap (fun i => L[i]?)) : ∀ w ∈ ws, w ∈ L := by
  intro w hw
  rw [hp] at hw
  obtain ⟨i, -, hi⟩ := List.mem_filterMap.mp hw
  exact List.mem_of_getElem? hi
theorem gw_by (ws : List Cond) (ps : List Nat) (hp : ws = ps.filterMap (fun i => lw_tbl[i]?)) (hg : ws.all goodWord = true) : ∀ w ∈ ws, w ∈ GW := fun w hw => List.mem_filter.mpr ⟨mem_by ws ps hp w hw, List.all_eq_true.mp hg w hw⟩
def frw (q : Nat × Nat × Nat × Nat) : Cond := .fieldLink (cn q.1) q.2.1 (tF q.2.2.1 q.2.2.2).1 (tF q.2.2.1 q.2.2.2).2.1 (tF q.2.2.1 q.2.2.2).2.2.1
def frW : List Cond := frL.map frw
def frW_ps : List Nat := [130, 133, 135, 137, 139, 143, 145, 150, 152, 155, 157, 160, 241, 244, 246, 249, 252, 255, 257, 258, 259, 262, 263, 264, 141, 131, 96, 99, 148, 154, 159, 242, 210, 256, 213, 196, 247, 250, 253, 260, 94, 97, 100, 102, 104, 106, 297, 298, 299, 199, 245, 243, 195, 202, 205, 208, 216, 248, 251, 261, 254, 313, 315, 317, 319, 321, 323, 161, 153, 156, 158, 146, 151, 194, 198, 201, 204, 207, 209, 212, 215, 142, 147, 338, 339, 340, 341, 342, 343, 344, 345, 346, 347, 95, 98, 101, 103, 105, 107, 140, 324, 314, 318, 316, 320, 322, 197, 200, 203, 206, 132, 136, 149, 162, 211, 214, 217, 144, 134, 138, 894, 895, 896, 897, 898, 899, 901, 902, 903, 904, 905, 906, 907, 908, 909, 910, 911, 914, 915, 916, 917, 918, 919, 920, 921, 922, 923, 924, 925, 926, 927, 928, 929, 930, 931, 932, 933, 934, 935, 936, 937, 938, 939, 940, 941, 942, 943, 944, 945, 893, 912, 900, 913, 947, 948, 949, 946]
set_option maxRecDepth 100000 in
theorem frW_in : ∀ w ∈ frW, w ∈ GW := gw_by _ frW_ps (by decide +kernel) (by decide +kernel)
def cw (z : Nat) : Cond := if hh z = [] then .code (yN z) (cc z) (mL z) (rt z) else .codeWith (yN z) (cc z) (mL z) (rt z) (hh z)
set_option maxRecDepth 100000 in
theorem cwk_0 : cw 0 ∈ GW := List.mem_filter.mpr ⟨List.mem_of_getElem? (i := 128) rfl, rfl⟩
set_option maxRecDepth 100000 in
theorem cwk_1 : cw 1 ∈ GW := List.mem_filter.mpr ⟨List.mem_of_getElem? (i := 489) rfl, rfl⟩
set_option maxRecDepth 100000 in
theorem cwk_2 : cw 2 ∈ GW := List.mem_filter.mpr ⟨List.mem_of_getElem? (i := 500) rfl, rfl⟩
set_option maxRecDepth 100000 in
theorem cwk_3 : cw 3 ∈ GW := List.mem_filter.mpr ⟨List.mem_of_getElem? (i := 547) rfl, rfl⟩
set_option maxRecDepth 100000 in
theorem cwk_4 : cw 4 ∈ GW := List.mem_filter.mpr ⟨List.mem_of_getElem? (i := 566) rfl, rfl⟩
set_option maxRecDepth 100000 in
theorem cwk_5 : cw 5 ∈ GW := List.mem_filter.mpr ⟨List.mem_of_getElem? (i := 570) rfl, rfl⟩
set_option maxRecDepth 100000 in
theorem cwk_6 : cw 6 ∈ GW := List.mem_filter.mpr ⟨List.mem_of_getElem? (i := 516) rfl, rfl⟩
set_option maxRecDepth 100000 in
theorem cwk_7 : cw 7 ∈ GW := List.mem_filter.mpr ⟨List.mem_of_getElem? (i := 562) rfl, rfl⟩
set_option maxRecDepth 100000 in
theorem cwk_8 : cw 8 ∈ GW := List.mem_filter.mpr ⟨List.mem_of_getElem? (i := 539) rfl, rfl⟩
set_option maxRecDepth 100000 in
theorem cwk_9 : cw 9 ∈ GW := List.mem_filter.mpr ⟨List.mem_of_getElem? (i := 543) rfl, rfl⟩
set_option maxRecDepth 100000 in
theorem cwk_10 : cw 10 ∈ GW := List.mem_filter.mpr ⟨List.mem_of_getElem? (i := 610) rfl, rfl⟩
set_option maxRecDepth 100000 in
theorem cwk_11 : cw 11 ∈ GW := List.mem_filter.mpr ⟨List.mem_of_getElem? (i := 606) rfl, rfl⟩
set_option maxRecDepth 100000 in
theorem cwk_12 : cw 12 ∈ GW := List.mem_filter.mpr ⟨List.mem_of_getElem? (i := 630) rfl, rfl⟩
set_option maxRecDepth 100000 in
theorem cwk_13 : cw 13 ∈ GW := List.mem_filter.mpr ⟨List.mem_of_getElem? (i := 594) rfl, rfl⟩
set_option maxRecDepth 100000 in
theorem cwk_14 : cw 14 ∈ GW := List.mem_filter.mpr ⟨List.mem_of_getElem? (i := 239) rfl, rfl⟩
set_option maxRecDepth 100000 in
theorem cwk_15 : cw 15 ∈ GW := List.mem_filter.mpr ⟨List.mem_of_getElem? (i := 597) rfl, rfl⟩
set_option maxRecDepth 100000 in
theorem cwk_16 : cw 16 ∈ GW := List.mem_filter.mpr ⟨List.mem_of_getElem? (i := 718) rfl, rfl⟩
set_option maxRecDepth 100000 in
theorem cwk_17 : cw 17 ∈ GW := List.mem_filter.mpr ⟨List.mem_of_getElem? (i := 680) rfl, rfl⟩
set_option maxRecDepth 100000 in
theorem cwk_18 : cw 18 ∈ GW := List.mem_filter.mpr ⟨List.mem_of_getElem? (i := 578) rfl, rfl⟩
set_option maxRecDepth 100000 in
theorem cwk_19 : cw 19 ∈ GW := List.mem_filter.mpr ⟨List.mem_of_getElem? (i := 601) rfl, rfl⟩
set_option maxRecDepth 100000 in
theorem cwk_20 : cw 20 ∈ GW := List.mem_filter.mpr ⟨List.mem_of_getElem? (i := 619) rfl, rfl⟩
set_option maxRecDepth 100000 in
theorem cwk_21 : cw 21 ∈ GW := List.mem_filter.mpr ⟨List.mem_of_getElem? (i := 622) rfl, rfl⟩
set_option maxRecDepth 100000 in
theorem cwk_22 : cw 22 ∈ GW := List.mem_filter.mpr ⟨List.mem_of_getElem? (i := 626) rfl, rfl⟩
set_option maxRecDepth 100000 in
theorem cwk_23 : cw 23 ∈ GW := List.mem_filter.mpr ⟨List.mem_of_getElem? (i := 634) rfl, rfl⟩
set_option maxRecDepth 100000 in
theorem cwk_24 : cw 24 ∈ GW := List.mem_filter.mpr ⟨List.mem_of_getElem? (i := 589) rfl, rfl⟩
set_option maxRecDepth 100000 in
theorem cwk_25 : cw 25 ∈ GW := List.mem_filter.mpr ⟨List.mem_of_getElem? (i := 642) rfl, rfl⟩
set_option maxRecDepth 100000 in
theorem cwk_26 : cw 26 ∈ GW := List.mem_filter.mpr ⟨List.mem_of_getElem? (i := 646) rfl, rfl⟩
set_option maxRecDepth 100000 in
theorem cwk_27 : cw 27 ∈ GW := List.mem_filter.mpr ⟨List.mem_of_getElem? (i := 650) rfl, rfl⟩
set_option maxRecDepth 100000 in
theorem cwk_28 : cw 28 ∈ GW := List.mem_filter.mpr ⟨List.mem_of_getElem? (i := 703) rfl, rfl⟩
set_option maxRecDepth 100000 in
theorem cwk_29 : cw 29 ∈ GW := List.mem_filter.mpr ⟨List.mem_of_getElem? (i := 665) rfl, rfl⟩
set_option maxRecDepth 100000 in
theorem cwk_30 : cw 30 ∈ GW := List.mem_filter.mpr ⟨List.mem_of_getElem? (i := 638) rfl, rfl⟩
set_option maxRecDepth 100000 in
theorem cwk_31 : cw 31 ∈ GW := List.mem_filter.mpr ⟨List.mem_of_getElem? (i := 653) rfl, rfl⟩
set_option maxRecDepth 100000 in
theorem cwk_32 : cw 32 ∈ GW := List.mem_filter.mpr ⟨List.mem_of_getElem? (i := 656) rfl, rfl⟩
set_option maxRecDepth 100000 in
theorem cwk_33 : cw 33 ∈ GW := List.mem_filter.mpr ⟨List.mem_of_getElem? (i := 659) rfl, rfl⟩
set_option maxRecDepth 100000 in
theorem cwk_34 : cw 34 ∈ GW := List.mem_filter.mpr ⟨List.mem_of_getElem? (i := 92) rfl, rfl⟩
set_option maxRecDepth 100000 in
theorem cwk_35 : cw 35 ∈ GW := List.mem_filter.mpr ⟨List.mem_of_getElem? (i := 585) rfl, rfl⟩
set_option maxRecDepth 100000 in
theorem cwk_36 : cw 36 ∈ GW := List.mem_filter.mpr ⟨List.mem_of_getElem? (i := 295) rfl, rfl⟩
set_option maxRecDepth 100000 in
theorem cwk_37 : cw 37 ∈ GW := List.mem_filter.mpr ⟨List.mem_of_getElem? (i := 669) rfl, rfl⟩
set_option maxRecDepth 100000 in
theorem cwk_38 : cw 38 ∈ GW := List.mem_filter.mpr ⟨List.mem_of_getElem? (i := 672) rfl, rfl⟩
set_option maxRecDepth 100000 in
theorem cwk_39 : cw 39 ∈ GW := List.mem_filter.mpr ⟨List.mem_of_getElem? (i := 733) rfl, rfl⟩
set_option maxRecDepth 100000 in
theorem cwk_40 : cw 40 ∈ GW := List.mem_filter.mpr ⟨List.mem_of_getElem? (i := 727) rfl, rfl⟩
set_option maxRecDepth 100000 in
theorem cwk_41 : cw 41 ∈ GW := List.mem_filter.mpr ⟨List.mem_of_getElem? (i := 676) rfl, rfl⟩
set_option maxRecDepth 100000 in
theorem cwk_42 : cw 42 ∈ GW := List.mem_filter.mpr ⟨List.mem_of_getElem? (i := 684) rfl, rfl⟩
set_option maxRecDepth 100000 in
theorem cwk_43 : cw 43 ∈ GW := List.mem_filter.mpr ⟨List.mem_of_getElem? (i := 691) rfl, rfl⟩
set_option maxRecDepth 100000 in
theorem cwk_44 : cw 44 ∈ GW := List.mem_filter.mpr ⟨List.mem_of_getElem? (i := 695) rfl, rfl⟩
set_option maxRecDepth 100000 in
theorem cwk_45 : cw 45 ∈ GW := List.mem_filter.mpr ⟨List.mem_of_getElem? (i := 699) rfl, rfl⟩
set_option maxRecDepth 100000 in
theorem cwk_46 : cw 46 ∈ GW := List.mem_filter.mpr ⟨List.mem_of_getElem? (i := 707) rfl, rfl⟩
set_option maxRecDepth 100000 in
theorem cwk_47 : cw 47 ∈ GW := List.mem_filter.mpr ⟨List.mem_of_getElem? (i := 722) rfl, rfl⟩
set_option maxRecDepth 100000 in
theorem cwk_48 : cw 48 ∈ GW := List.mem_filter.mpr ⟨List.mem_of_getElem? (i := 714) rfl, rfl⟩
set_option maxRecDepth 100000 in
theorem cwk_49 : cw 49 ∈ GW := List.mem_filter.mpr ⟨List.mem_of_getElem? (i := 311) rfl, rfl⟩
set_option maxRecDepth 100000 in
theorem cwk_50 : cw 50 ∈ GW := List.mem_filter.mpr ⟨List.mem_of_getElem? (i := 754) rfl, rfl⟩
set_option maxRecDepth 100000 in
theorem cwk_51 : cw 51 ∈ GW := List.mem_filter.mpr ⟨List.mem_of_getElem? (i := 759) rfl, rfl⟩
set_option maxRecDepth 100000 in
theorem cwk_52 : cw 52 ∈ GW := List.mem_filter.mpr ⟨List.mem_of_getElem? (i := 768) rfl, rfl⟩
set_option maxRecDepth 100000 in
theorem cwk_53 : cw 53 ∈ GW := List.mem_filter.mpr ⟨List.mem_of_getElem? (i := 772) rfl, rfl⟩
set_option maxRecDepth 100000 in
theorem cwk_54 : cw 54 ∈ GW := List.mem_filter.mpr ⟨List.mem_of_getElem? (i := 777) rfl, rfl⟩
set_option maxRecDepth 100000 in
theorem cwk_55 : cw 55 ∈ GW := List.mem_filter.mpr ⟨List.mem_of_getElem? (i := 781) rfl, rfl⟩
set_option maxRecDepth 100000 in
theorem cwk_56 : cw 56 ∈ GW := List.mem_filter.mpr ⟨List.mem_of_getElem? (i := 785) rfl, rfl⟩
set_option maxRecDepth 100000 in
theorem cwk_57 : cw 57 ∈ GW := List.mem_filter.mpr ⟨List.mem_of_getElem? (i := 192) rfl, rfl⟩
set_option maxRecDepth 100000 in
theorem cwk_58 : cw 58 ∈ GW := List.mem_filter.mpr ⟨List.mem_of_getElem? (i := 738) rfl, rfl⟩
set_option maxRecDepth 100000 in
theorem cwk_59 : cw 59 ∈ GW := List.mem_filter.mpr ⟨List.mem_of_getElem? (i := 794) rfl, rfl⟩
set_option maxRecDepth 100000 in
theorem cwk_60 : cw 60 ∈ GW := List.mem_filter.mpr ⟨List.mem_of_getElem? (i := 789) rfl, rfl⟩
set_option maxRecDepth 100000 in
theorem cwk_61 : cw 61 ∈ GW := List.mem_filter.mpr ⟨List.mem_of_getElem? (i := 876) rfl, rfl⟩
set_option maxRecDepth 100000 in
theorem cwk_62 : cw 62 ∈ GW := List.mem_filter.mpr ⟨List.mem_of_getElem? (i := 730) rfl, rfl⟩
set_option maxRecDepth 100000 in
theorem cwk_63 : cw 63 ∈ GW := List.mem_filter.mpr ⟨List.mem_of_getElem? (i := 710) rfl, rfl⟩
set_option maxRecDepth 100000 in
theorem cwk_64 : cw 64 ∈ GW := List.mem_filter.mpr ⟨List.mem_of_getElem? (i := 84) rfl, rfl⟩
set_option maxRecDepth 100000 in
theorem cwk_65 : cw 65 ∈ GW := List.mem_filter.mpr ⟨List.mem_of_getElem? (i := 391) rfl, rfl⟩
set_option maxRecDepth 100000 in
theorem cwk_66 : cw 66 ∈ GW := List.mem_filter.mpr ⟨List.mem_of_getElem? (i := 467) rfl, rfl⟩
set_option maxRecDepth 100000 in
theorem cwk_67 : cw 67 ∈ GW := List.mem_filter.mpr ⟨List.mem_of_getElem? (i := 496) rfl, rfl⟩
set_option maxRecDepth 100000 in
theorem cwk_68 : cw 68 ∈ GW := List.mem_filter.mpr ⟨List.mem_of_getElem? (i := 372) rfl, rfl⟩
set_option maxRecDepth 100000 in
theorem cwk_69 : cw 69 ∈ GW := List.mem_filter.mpr ⟨List.mem_of_getElem? (i := 376) rfl, rfl⟩
set_option maxRecDepth 100000 in
theorem cwk_70 : cw 70 ∈ GW := List.mem_filter.mpr ⟨List.mem_of_getElem? (i := 383) rfl, rfl⟩
set_option maxRecDepth 100000 in
theorem cwk_71 : cw 71 ∈ GW := List.mem_filter.mpr ⟨List.mem_of_getElem? (i := 508) rfl, rfl⟩
set_option maxRecDepth 100000 in
theorem cwk_72 : cw 72 ∈ GW := List.mem_filter.mpr ⟨List.mem_of_getElem? (i := 746) rfl, rfl⟩
set_option maxRecDepth 100000 in
theorem cwk_73 : cw 73 ∈ GW := List.mem_filter.mpr ⟨List.mem_of_getElem? (i := 817) rfl, rfl⟩
set_option maxRecDepth 100000 in
theorem cwk_74 : cw 74 ∈ GW := List.mem_filter.mpr ⟨List.mem_of_getElem? (i := 824) rfl, rfl⟩
set_option maxRecDepth 100000 in
theorem cwk_75 : cw 75 ∈ GW := List.mem_filter.mpr ⟨List.mem_of_getElem? (i := 831) rfl, rfl⟩
set_option maxRecDepth 100000 in
theorem cwk_76 : cw 76 ∈ GW := List.mem_filter.mpr ⟨List.mem_of_getElem? (i := 839) rfl, rfl⟩
set_option maxRecDepth 100000 in
theorem cwk_77 : cw 77 ∈ GW := List.mem_filter.mpr ⟨List.mem_of_getElem? (i := 865) rfl, rfl⟩
set_option maxRecDepth 100000 in
theorem cwk_78 : cw 78 ∈ GW := List.mem_filter.mpr ⟨List.mem_of_getElem? (i := 872) rfl, rfl⟩
set_option maxRecDepth 100000 in
theorem cwk_79 : cw 79 ∈ GW := List.mem_filter.mpr ⟨List.mem_of_getElem? (i := 886) rfl, rfl⟩
set_option maxRecDepth 100000 in
theorem cwk_80 : cw 80 ∈ GW := List.mem_filter.mpr ⟨List.mem_of_getElem? (i := 843) rfl, rfl⟩
set_option maxRecDepth 100000 in
theorem cwk_81 : cw 81 ∈ GW := List.mem_filter.mpr ⟨List.mem_of_getElem? (i := 394) rfl, rfl⟩
set_option maxRecDepth 100000 in
theorem cwk_82 : cw 82 ∈ GW := List.mem_filter.mpr ⟨List.mem_of_getElem? (i := 470) rfl, rfl⟩
set_option maxRecDepth 100000 in
theorem cwk_83 : cw 83 ∈ GW := List.mem_filter.mpr ⟨List.mem_of_getElem? (i := 581) rfl, rfl⟩
set_option maxRecDepth 100000 in
theorem cwk_84 : cw 84 ∈ GW := List.mem_filter.mpr ⟨List.mem_of_getElem? (i := 379) rfl, rfl⟩
set_option maxRecDepth 100000 in
theorem cwk_85 : cw 85 ∈ GW := List.mem_filter.mpr ⟨List.mem_of_getElem? (i := 512) rfl, rfl⟩
set_option maxRecDepth 100000 in
theorem cwk_86 : cw 86 ∈ GW := List.mem_filter.mpr ⟨List.mem_of_getElem? (i := 535) rfl, rfl⟩
set_option maxRecDepth 100000 in
theorem cwk_87 : cw 87 ∈ GW := List.mem_filter.mpr ⟨List.mem_of_getElem? (i := 552) rfl, rfl⟩
set_option maxRecDepth 100000 in
theorem cwk_88 : cw 88 ∈ GW := List.mem_filter.mpr ⟨List.mem_of_getElem? (i := 555) rfl, rfl⟩
set_option maxRecDepth 100000 in
theorem cwk_89 : cw 89 ∈ GW := List.mem_filter.mpr ⟨List.mem_of_getElem? (i := 558) rfl, rfl⟩
set_option maxRecDepth 100000 in
theorem cwk_90 : cw 90 ∈ GW := List.mem_filter.mpr ⟨List.mem_of_getElem? (i := 574) rfl, rfl⟩
set_option maxRecDepth 100000 in
theorem cwk_91 : cw 91 ∈ GW := List.mem_filter.mpr ⟨List.mem_of_getElem? (i := 750) rfl, rfl⟩
set_option maxRecDepth 100000 in
theorem cwk_92 : cw 92 ∈ GW := List.mem_filter.mpr ⟨List.mem_of_getElem? (i := 764) rfl, rfl⟩
set_option maxRecDepth 100000 in
theorem cwk_93 : cw 93 ∈ GW := List.mem_filter.mpr ⟨List.mem_of_getElem? (i := 891) rfl, rfl⟩
set_option maxRecDepth 100000 in
theorem cwk_94 : cw 94 ∈ GW := List.mem_filter.mpr ⟨List.mem_of_getElem? (i := 1068) rfl, rfl⟩
set_option maxRecDepth 100000 in
theorem cwk_95 : cw 95 ∈ GW := List.mem_filter.mpr ⟨List.mem_of_getElem? (i := 1075) rfl, rfl⟩
set_option maxRecDepth 100000 in
theorem cwk_96 : cw 96 ∈ GW := List.mem_filter.mpr ⟨List.mem_of_getElem? (i := 1078) rfl, rfl⟩
set_option maxRecDepth 100000 in
theorem cwk_97 : cw 97 ∈ GW := List.mem_filter.mpr ⟨List.mem_of_getElem? (i := 1072) rfl, rfl⟩
set_option maxRecDepth 100000 in
theorem cwk_98 : cw 98 ∈ GW := List.mem_filter.mpr ⟨List.mem_of_getElem? (i := 1082) rfl, rfl⟩
set_option maxRecDepth 100000 in
theorem cwk_99 : cw 99 ∈ GW := List.mem_filter.mpr ⟨List.mem_of_getElem? (i := 1086) rfl, rfl⟩
set_option maxRecDepth 100000 in
theorem cwk_100 : cw 100 ∈ GW := List.mem_filter.mpr ⟨List.mem_of_getElem? (i := 1090) rfl, rfl⟩
set_option maxRecDepth 100000 in
theorem cwk_101 : cw 101 ∈ GW := List.mem_filter.mpr ⟨List.mem_of_getElem? (i := 1094) rfl, rfl⟩
set_option maxRecDepth 100000 in
theorem cwk_102 : cw 102 ∈ GW := List.mem_filter.mpr ⟨List.mem_of_getElem? (i := 1098) rfl, rfl⟩
set_option maxRecDepth 100000 in
theorem cwk_103 : cw 103 ∈ GW := List.mem_filter.mpr ⟨List.mem_of_getElem? (i := 1109) rfl, rfl⟩
set_option maxRecDepth 100000 in
theorem cwk_104 : cw 104 ∈ GW := List.mem_filter.mpr ⟨List.mem_of_getElem? (i := 1112) rfl, rfl⟩
set_option maxRecDepth 100000 in
theorem cwk_105 : cw 105 ∈ GW := List.mem_filter.mpr ⟨List.mem_of_getElem? (i := 1119) rfl, rfl⟩
set_option maxRecDepth 100000 in
theorem cwk_106 : cw 106 ∈ GW := List.mem_filter.mpr ⟨List.mem_of_getElem? (i := 1106) rfl, rfl⟩
set_option maxRecDepth 100000 in
theorem cwk_107 : cw 107 ∈ GW := List.mem_filter.mpr ⟨List.mem_of_getElem? (i := 1116) rfl, rfl⟩
set_option maxRecDepth 100000 in
theorem cwk_108 : cw 108 ∈ GW := List.mem_filter.mpr ⟨List.mem_of_getElem? (i := 1102) rfl, rfl⟩
set_option maxRecDepth 100000 in
theorem cwk_109 : cw 109 ∈ GW := List.mem_filter.mpr ⟨List.mem_of_getElem? (i := 1123) rfl, rfl⟩
set_option maxRecDepth 100000 in
theorem cwk_110 : cw 110 ∈ GW := List.mem_filter.mpr ⟨List.mem_of_getElem? (i := 1127) rfl, rfl⟩
set_option maxRecDepth 100000 in
theorem cwk_111 : cw 111 ∈ GW := List.mem_filter.mpr ⟨List.mem_of_getElem? (i := 1135) rfl, rfl⟩
set_option maxRecDepth 100000 in
theorem cwk_112 : cw 112 ∈ GW := List.mem_filter.mpr ⟨List.mem_of_getElem? (i := 1131) rfl, rfl⟩
set_option maxRecDepth 100000 in
theorem cwk_113 : cw 113 ∈ GW := List.mem_filter.mpr ⟨List.mem_of_getElem? (i := 1139) rfl, rfl⟩
set_option maxRecDepth 100000 in
theorem cwk_114 : cw 114 ∈ GW := List.mem_filter.mpr ⟨List.mem_of_getElem? (i := 1143) rfl, rfl⟩
set_option maxRecDepth 100000 in
theorem cwk_115 : cw 115 ∈ GW := List.mem_filter.mpr ⟨List.mem_of_getElem? (i := 1184) rfl, rfl⟩
set_option maxRecDepth 100000 in
theorem cwk_116 : cw 116 ∈ GW := List.mem_filter.mpr ⟨List.mem_of_getElem? (i := 1208) rfl, rfl⟩
set_option maxRecDepth 100000 in
theorem cwk_117 : cw 117 ∈ GW := List.mem_filter.mpr ⟨List.mem_of_getElem? (i := 1167) rfl, rfl⟩
set_option maxRecDepth 100000 in
theorem cwk_118 : cw 118 ∈ GW := List.mem_filter.mpr ⟨List.mem_of_getElem? (i := 1180) rfl, rfl⟩
set_option maxRecDepth 100000 in
theorem cwk_119 : cw 119 ∈ GW := List.mem_filter.mpr ⟨List.mem_of_getElem? (i := 1155) rfl, rfl⟩
set_option maxRecDepth 100000 in
theorem cwk_120 : cw 120 ∈ GW := List.mem_filter.mpr ⟨List.mem_of_getElem? (i := 1192) rfl, rfl⟩
set_option maxRecDepth 100000 in
theorem cwk_121 : cw 121 ∈ GW := List.mem_filter.mpr ⟨List.mem_of_getElem? (i := 1188) rfl, rfl⟩
set_option maxRecDepth 100000 in
theorem cwk_122 : cw 122 ∈ GW := List.mem_filter.mpr ⟨List.mem_of_getElem? (i := 1176) rfl, rfl⟩
set_option maxRecDepth 100000 in
theorem cwk_123 : cw 123 ∈ GW := List.mem_filter.mpr ⟨List.mem_of_getElem? (i := 1163) rfl, rfl⟩
set_option maxRecDepth 100000 in
theorem cwk_124 : cw 124 ∈ GW := List.mem_filter.mpr ⟨List.mem_of_getElem? (i := 1171) rfl, rfl⟩
set_option maxRecDepth 100000 in
theorem cwk_125 : cw 125 ∈ GW := List.mem_filter.mpr ⟨List.mem_of_getElem? (i := 1159) rfl, rfl⟩
set_option maxRecDepth 100000 in
theorem cwk_126 : cw 126 ∈ GW := List.mem_filter.mpr ⟨List.mem_of_getElem? (i := 1151) rfl, rfl⟩
set_option maxRecDepth 100000 in
theorem cwk_127 : cw 127 ∈ GW := List.mem_filter.mpr ⟨List.mem_of_getElem? (i := 1220) rfl, rfl⟩
set_option maxRecDepth 100000 in
theorem cwk_128 : cw 128 ∈ GW := List.mem_filter.mpr ⟨List.mem_of_getElem? (i := 1200) rfl, rfl⟩
set_option maxRecDepth 100000 in
theorem cwk_129 : cw 129 ∈ GW := List.mem_filter.mpr ⟨List.mem_of_getElem? (i := 1216) rfl, rfl⟩
set_option maxRecDepth 100000 in
theorem cwk_130 : cw 130 ∈ GW := List.mem_filter.mpr ⟨List.mem_of_getElem? (i := 1212) rfl, rfl⟩
set_option maxRecDepth 100000 in
theorem cwk_131 : cw 131 ∈ GW := List.mem_filter.mpr ⟨List.mem_of_getElem? (i := 1147) rfl, rfl⟩
set_option maxRecDepth 100000 in
theorem cwk_132 : cw 132 ∈ GW := List.mem_filter.mpr ⟨List.mem_of_getElem? (i := 1196) rfl, rfl⟩
set_option maxRecDepth 100000 in
theorem cwk_133 : cw 133 ∈ GW := List.mem_filter.mpr ⟨List.mem_of_getElem? (i := 1204) rfl, rfl⟩
set_option maxRecDepth 100000 in
theorem cwk_134 : cw 134 ∈ GW := List.mem_filter.mpr ⟨List.mem_of_getElem? (i := 1232) rfl, rfl⟩
set_option maxRecDepth 100000 in
theorem cwk_135 : cw 135 ∈ GW := List.mem_filter.mpr ⟨List.mem_of_getElem? (i := 1236) rfl, rfl⟩
set_option maxRecDepth 100000 in
theorem cwk_136 : cw 136 ∈ GW := List.mem_filter.mpr ⟨List.mem_of_getElem? (i := 1224) rfl, rfl⟩
set_option maxRecDepth 100000 in
theorem cwk_137 : cw 137 ∈ GW := List.mem_filter.mpr ⟨List.mem_of_getElem? (i := 1228) rfl, rfl⟩
set_option maxRecDepth 100000 in
theorem cwk_138 : cw 138 ∈ GW := List.mem_filter.mpr ⟨List.mem_of_getElem? (i := 1252) rfl, rfl⟩
set_option maxRecDepth 100000 in
theorem cwk_139 : cw 139 ∈ GW := List.mem_filter.mpr ⟨List.mem_of_getElem? (i := 1248) rfl, rfl⟩
set_option maxRecDepth 100000 in
theorem cwk_140 : cw 140 ∈ GW := List.mem_filter.mpr ⟨List.mem_of_getElem? (i := 1244) rfl, rfl⟩
set_option maxRecDepth 100000 in
theorem cwk_141 : cw 141 ∈ GW := List.mem_filter.mpr ⟨List.mem_of_getElem? (i := 1256) rfl, rfl⟩
set_option maxRecDepth 100000 in
theorem cwk_142 : cw 142 ∈ GW := List.mem_filter.mpr ⟨List.mem_of_getElem? (i := 1240) rfl, rfl⟩
set_option maxRecDepth 100000 in
theorem cwk_143 : cw 143 ∈ GW := List.mem_filter.mpr ⟨List.mem_of_getElem? (i := 1260) rfl, rfl⟩
set_option maxRecDepth 100000 in
theorem cwk_144 : cw 144 ∈ GW := List.mem_filter.mpr ⟨List.mem_of_getElem? (i := 1264) rfl, rfl⟩
set_option maxRecDepth 100000 in
theorem cwk_145 : cw 145 ∈ GW := List.mem_filter.mpr ⟨List.mem_of_getElem? (i := 1268) rfl, rfl⟩
set_option maxRecDepth 100000 in
theorem cwk_146 : cw 146 ∈ GW := List.mem_filter.mpr ⟨List.mem_of_getElem? (i := 1272) rfl, rfl⟩
set_option maxRecDepth 100000 in
theorem cwk_147 : cw 147 ∈ GW := List.mem_filter.mpr ⟨List.mem_of_getElem? (i := 1280) rfl, rfl⟩
set_option maxRecDepth 100000 in
theorem cwk_148 : cw 148 ∈ GW := List.mem_filter.mpr ⟨List.mem_of_getElem? (i := 1276) rfl, rfl⟩
set_option maxRecDepth 100000 in
theorem cwk_149 : cw 149 ∈ GW := List.mem_filter.mpr ⟨List.mem_of_getElem? (i := 1284) rfl, rfl⟩
set_option maxRecDepth 100000 in
theorem cwk_150 : cw 150 ∈ GW := List.mem_filter.mpr ⟨List.mem_of_getElem? (i := 1288) rfl, rfl⟩
set_option maxRecDepth 100000 in
theorem cwk_151 : cw 151 ∈ GW := List.mem_filter.mpr ⟨List.mem_of_getElem? (i := 1292) rfl, rfl⟩
set_option maxRecDepth 100000 in
theorem cwk_152 : cw 152 ∈ GW := List.mem_filter.mpr ⟨List.mem_of_getElem? (i := 386) rfl, rfl⟩
set_option maxRecDepth 100000 in
theorem cwk_153 : cw 153 ∈ GW := List.mem_filter.mpr ⟨List.mem_of_getElem? (i := 462) rfl, rfl⟩
set_option maxRecDepth 100000 in
theorem cwk_154 : cw 154 ∈ GW := List.mem_filter.mpr ⟨List.mem_of_getElem? (i := 492) rfl, rfl⟩
set_option maxRecDepth 100000 in
theorem cwk_155 : cw 155 ∈ GW := List.mem_filter.mpr ⟨List.mem_of_getElem? (i := 503) rfl, rfl⟩
set_option maxRecDepth 100000 in
theorem cwk_156 : cw 156 ∈ GW := List.mem_filter.mpr ⟨List.mem_of_getElem? (i := 741) rfl, rfl⟩
set_option maxRecDepth 100000 in
theorem cwk_157 : cw 157 ∈ GW := List.mem_filter.mpr ⟨List.mem_of_getElem? (i := 813) rfl, rfl⟩
set_option maxRecDepth 100000 in
theorem cwk_158 : cw 158 ∈ GW := List.mem_filter.mpr ⟨List.mem_of_getElem? (i := 820) rfl, rfl⟩
set_option maxRecDepth 100000 in
theorem cwk_159 : cw 159 ∈ GW := List.mem_filter.mpr ⟨List.mem_of_getElem? (i := 827) rfl, rfl⟩
set_option maxRecDepth 100000 in
theorem cwk_160 : cw 160 ∈ GW := List.mem_filter.mpr ⟨List.mem_of_getElem? (i := 834) rfl, rfl⟩
set_option maxRecDepth 100000 in
theorem cwk_161 : cw 161 ∈ GW := List.mem_filter.mpr ⟨List.mem_of_getElem? (i := 861) rfl, rfl⟩
set_option maxRecDepth 100000 in
theorem cwk_162 : cw 162 ∈ GW := List.mem_filter.mpr ⟨List.mem_of_getElem? (i := 868) rfl, rfl⟩
set_option maxRecDepth 100000 in
theorem cwk_163 : cw 163 ∈ GW := List.mem_filter.mpr ⟨List.mem_of_getElem? (i := 882) rfl, rfl⟩
set_option maxRecDepth 100000 in
theorem cwk_164 : cw 164 ∈ GW := List.mem_filter.mpr ⟨List.mem_of_getElem? (i := 616) rfl, rfl⟩
set_option maxRecDepth 100000 in
theorem cwk_165 : cw 165 ∈ GW := List.mem_filter.mpr ⟨List.mem_of_getElem? (i := 613) rfl, rfl⟩
def cwa_p (z : Nat) : Prop := cw z ∈ GW
theorem cwa_u24 : ∀ a, a < 24 → cwa_p a := lt_s (p := cwa_p) (lt_s (p := cwa_p) (lt_s (p := cwa_p) (lt_s (p := cwa_p) (lt_s (p := cwa_p) (lt_s (p := cwa_p) (lt_s (p := cwa_p) (lt_s (p := cwa_p) (lt_s (p := cwa_p) (lt_s (p := cwa_p) (lt_s (p := cwa_p) (lt_s (p := cwa_p) (lt_s (p := cwa_p) (lt_s (p := cwa_p) (lt_s (p := cwa_p) (lt_s (p := cwa_p) (lt_s (p := cwa_p) (lt_s (p := cwa_p) (lt_s (p := cwa_p) (lt_s (p := cwa_p) (lt_s (p := cwa_p) (lt_s (p := cwa_p) (lt_s (p := cwa_p) (lt_s (p := cwa_p) ((lt_0 : ∀ a, a < 0 → cwa_p a)) cwk_0) cwk_1) cwk_2) cwk_3) cwk_4) cwk_5) cwk_6) cwk_7) cwk_8) cwk_9) cwk_10) cwk_11) cwk_12) cwk_13) cwk_14) cwk_15) cwk_16) cwk_17) cwk_18) cwk_19) cwk_20) cwk_21) cwk_22) cwk_23
theorem cwa_u48 : ∀ a, a < 48 → cwa_p a := lt_s (p := cwa_p) (lt_s (p := cwa_p) (lt_s (p := cwa_p) (lt_s (p := cwa_p) (lt_s (p := cwa_p) (lt_s (p := cwa_p) (lt_s (p := cwa_p) (lt_s (p := cwa_p) (lt_s (p := cwa_p) (lt_s (p := cwa_p) (lt_s (p := cwa_p) (lt_s (p := cwa_p) (lt_s (p := cwa_p) (lt_s (p := cwa_p) (lt_s (p := cwa_p) (lt_s (p := cwa_p) (lt_s (p := cwa_p) (lt_s (p := cwa_p) (lt_s (p := cwa_p) (lt_s (p := cwa_p) (lt_s (p := cwa_p) (lt_s (p := cwa_p) (lt_s (p := cwa_p) (lt_s (p := cwa_p) (cwa_u24) cwk_24) cwk_25) cwk_26) cwk_27) cwk_28) cwk_29) cwk_30) cwk_31) cwk_32) cwk_33) cwk_34) cwk_35) cwk_36) cwk_37) cwk_38) cwk_39) cwk_40) cwk_41) cwk_42) cwk_43) cwk_44) cwk_45) cwk_46) cwk_47
theorem cwa_u72 : ∀ a, a < 72 → cwa_p a := lt_s (p := cwa_p) (lt_s (p := cwa_p) (lt_s (p := cwa_p) (lt_s (p := cwa_p) (lt_s (p := cwa_p) (lt_s (p := cwa_p) (lt_s (p := cwa_p) (lt_s (p := cwa_p) (lt_s (p := cwa_p) (lt_s (p := cwa_p) (lt_s (p := cwa_p) (lt_s (p := cwa_p) (lt_s (p := cwa_p) (lt_s (p := cwa_p) (lt_s (p := cwa_p) (lt_s (p := cwa_p) (lt_s (p := cwa_p) (lt_s (p := cwa_p) (lt_s (p := cwa_p) (lt_s (p := cwa_p) (lt_s (p := cwa_p) (lt_s (p := cwa_p) (lt_s (p := cwa_p) (lt_s (p := cwa_p) (cwa_u48) cwk_48) cwk_49) cwk_50) cwk_51) cwk_52) cwk_53) cwk_54) cwk_55) cwk_56) cwk_57) cwk_58) cwk_59) cwk_60) cwk_61) cwk_62) cwk_63) cwk_64) cwk_65) cwk_66) cwk_67) cwk_68) cwk_69) cwk_70) cwk_71
theorem cwa_u96 : ∀ a, a < 96 → cwa_p a := lt_s (p := cwa_p) (lt_s (p := cwa_p) (lt_s (p := cwa_p) (lt_s (p := cwa_p) (lt_s (p := cwa_p) (lt_s (p := cwa_p) (lt_s (p := cwa_p) (lt_s (p := cwa_p) (lt_s (p := cwa_p) (lt_s (p := cwa_p) (lt_s (p := cwa_p) (lt_s (p := cwa_p) (lt_s (p := cwa_p) (lt_s (p := cwa_p) (lt_s (p := cwa_p) (lt_s (p := cwa_p) (lt_s (p := cwa_p) (lt_s (p := cwa_p) (lt_s (p := cwa_p) (lt_s (p := cwa_p) (lt_s (p := cwa_p) (lt_s (p := cwa_p) (lt_s (p := cwa_p) (lt_s (p := cwa_p) (cwa_u72) cwk_72) cwk_73) cwk_74) cwk_75) cwk_76) cwk_77) cwk_78) cwk_79) cwk_80) cwk_81) cwk_82) cwk_83) cwk_84) cwk_85) cwk_86) cwk_87) cwk_88) cwk_89) cwk_90) cwk_91) cwk_92) cwk_93) cwk_94) cwk_95
theorem cwa_u120 : ∀ a, a < 120 → cwa_p a := lt_s (p := cwa_p) (lt_s (p := cwa_p) (lt_s (p := cwa_p) (lt_s (p := cwa_p) (lt_s (p := cwa_p) (lt_s (p := cwa_p) (lt_s (p := cwa_p) (lt_s (p := cwa_p) (lt_s (p := cwa_p) (lt_s (p := cwa_p) (lt_s (p := cwa_p) (lt_s (p := cwa_p) (lt_s (p := cwa_p) (lt_s (p := cwa_p) (lt_s (p := cwa_p) (lt_s (p := cwa_p) (lt_s (p := cwa_p) (lt_s (p := cwa_p) (lt_s (p := cwa_p) (lt_s (p := cwa_p) (lt_s (p := cwa_p) (lt_s (p := cwa_p) (lt_s (p := cwa_p) (lt_s (p := cwa_p) (cwa_u96) cwk_96) cwk_97) cwk_98) cwk_99) cwk_100) cwk_101) cwk_102) cwk_103) cwk_104) cwk_105) cwk_106) cwk_107) cwk_108) cwk_109) cwk_110) cwk_111) cwk_112) cwk_113) cwk_114) cwk_115) cwk_116) cwk_117) cwk_118) cwk_119
theorem cwa_u144 : ∀ a, a < 144 → cwa_p a := lt_s (p := cwa_p) (lt_s (p := cwa_p) (lt_s (p := cwa_p) (lt_s (p := cwa_p) (lt_s (p := cwa_p) (lt_s (p := cwa_p) (lt_s (p := cwa_p) (lt_s (p := cwa_p) (lt_s (p := cwa_p) (lt_s (p := cwa_p) (lt_s (p := cwa_p) (lt_s (p := cwa_p) (lt_s (p := cwa_p) (lt_s (p := cwa_p) (lt_s (p := cwa_p) (lt_s (p := cwa_p) (lt_s (p := cwa_p) (lt_s (p := cwa_p) (lt_s (p := cwa_p) (lt_s (p := cwa_p) (lt_s (p := cwa_p) (lt_s (p := cwa_p) (lt_s (p := cwa_p) (lt_s (p := cwa_p) (cwa_u120) cwk_120) cwk_121) cwk_122) cwk_123) cwk_124) cwk_125) cwk_126) cwk_127) cwk_128) cwk_129) cwk_130) cwk_131) cwk_132) cwk_133) cwk_134) cwk_135) cwk_136) cwk_137) cwk_138) cwk_139) cwk_140) cwk_141) cwk_142) cwk_143
theorem cwa_u166 : ∀ a, a < 166 → cwa_p a := lt_s (p := cwa_p) (lt_s (p := cwa_p) (lt_s (p := cwa_p) (lt_s (p := cwa_p) (lt_s (p := cwa_p) (lt_s (p := cwa_p) (lt_s (p := cwa_p) (lt_s (p := cwa_p) (lt_s (p := cwa_p) (lt_s (p := cwa_p) (lt_s (p := cwa_p) (lt_s (p := cwa_p) (lt_s (p := cwa_p) (lt_s (p := cwa_p) (lt_s (p := cwa_p) (lt_s (p := cwa_p) (lt_s (p := cwa_p) (lt_s (p := cwa_p) (lt_s (p := cwa_p) (lt_s (p := cwa_p) (lt_s (p := cwa_p) (lt_s (p := cwa_p) (cwa_u144) cwk_144) cwk_145) cwk_146) cwk_147) cwk_148) cwk_149) cwk_150) cwk_151) cwk_152) cwk_153) cwk_154) cwk_155) cwk_156) cwk_157) cwk_158) cwk_159) cwk_160) cwk_161) cwk_162) cwk_163) cwk_164) cwk_165
def mrw (m : Nat × Nat × Nat × Nat) : List Cond :=
  if m.2.2.2 = 0 then [.methodLink (cn m.1) m.2.1 (yN m.2.2.1), .instanceMethod (yN m.2.2.1), .selects (yN m.2.2.1).cls (yN m.2.2.1) (yN m.2.2.1), .initialized (yN m.2.2.1).cls]
  else if m.2.2.2 = 1 ∨ m.2.2.2 = 2 then [.methodLink (cn m.1) m.2.1 (yN m.2.2.1), .static (yN m.2.2.1), .initialized (yN m.2.2.1).cls]
  else if m.2.2.2 = 3 then [.methodLink (cn m.1) m.2.1 (yN m.2.2.1), .instanceMethod (yN m.2.2.1), .initialized (yN m.2.2.1).cls]
  else if m.2.2.2 = 4 then [.instanceMethod (yN m.2.2.1), .initialized (yN m.2.2.1).cls]
  else [.static (yN m.2.2.1), .initialized (yN m.2.2.1).cls]
def mrW : List Cond := mrL.flatMap mrw
def mrW_ps : List Nat := [548, 487, 488, 64, 549, 498, 499, 64, 540, 541, 542, 64, 611, 612, 76, 607, 608, 609, 64, 580, 62, 582, 583, 584, 63, 586, 588, 4, 66, 595, 596, 66, 598, 600, 5, 66, 623, 625, 6, 66, 590, 541, 542, 64, 603, 604, 605, 64, 614, 615, 76, 617, 618, 66, 620, 621, 66, 627, 628, 629, 64, 631, 633, 7, 66, 378, 62, 591, 592, 593, 64, 643, 645, 8, 66, 639, 640, 641, 66, 647, 648, 649, 66, 651, 652, 77, 662, 663, 664, 66, 654, 655, 77, 657, 658, 77, 660, 596, 66, 670, 671, 67, 673, 675, 9, 67, 688, 690, 11, 67, 731, 732, 67, 725, 726, 67, 734, 663, 664, 66, 728, 729, 65, 687, 615, 76, 677, 678, 679, 66, 681, 683, 10, 67, 685, 640, 641, 66, 686, 648, 649, 66, 692, 694, 12, 67, 696, 698, 13, 67, 700, 701, 702, 66, 704, 706, 14, 67, 708, 709, 65, 719, 721, 16, 67, 723, 596, 66, 711, 713, 15, 67, 715, 716, 717, 66, 760, 615, 76, 769, 771, 19, 68, 378, 62, 774, 776, 20, 68, 778, 780, 21, 68, 782, 784, 22, 68, 795, 615, 76, 790, 736, 737, 65, 877, 709, 65, 878, 729, 65, 580, 62, 91, 63, 127, 64, 191, 65, 238, 66, 294, 67, 310, 68, 392, 393, 62, 468, 469, 62, 486, 487, 488, 64, 497, 498, 499, 64, 377, 378, 62, 509, 511, 1, 62, 532, 534, 2, 62, 544, 545, 546, 64, 550, 551, 62, 571, 573, 3, 62, 747, 749, 17, 62, 840, 842, 23, 62, 873, 874, 875, 65, 735, 736, 737, 65, 513, 514, 515, 64, 536, 537, 538, 64, 553, 554, 62, 556, 557, 62, 563, 564, 565, 64, 567, 568, 569, 64, 559, 560, 561, 64, 575, 576, 577, 66, 636, 637, 77, 666, 667, 668, 67, 751, 752, 753, 68, 755, 615, 76, 756, 757, 758, 68, 761, 763, 18, 62, 765, 766, 767, 68, 786, 787, 788, 65, 791, 792, 793, 65, 1073, 1074, 69, 1076, 1077, 69, 1107, 1108, 69, 1110, 1111, 69, 1117, 1118, 69, 1103, 1105, 24, 69, 1113, 1115, 25, 69, 1120, 1122, 26, 69, 1128, 1130, 28, 69, 1144, 1146, 32, 69, 1124, 1126, 27, 69, 1132, 1134, 29, 69, 1136, 1138, 30, 69, 1140, 1142, 31, 69, 1164, 1166, 37, 69, 1177, 1179, 40, 69, 1181, 1183, 41, 69, 1185, 1187, 42, 69, 1189, 1191, 43, 69, 1160, 1162, 36, 69, 1168, 1170, 38, 69, 1152, 1154, 34, 69, 1156, 1158, 35, 69, 1173, 1175, 39, 69, 1217, 1219, 50, 69, 1205, 1207, 47, 69, 1148, 1150, 33, 69, 1193, 1195, 44, 69, 1213, 1215, 49, 69, 1221, 1223, 51, 69, 1197, 1199, 45, 69, 1201, 1203, 46, 69, 1209, 1211, 48, 69, 1225, 1227, 52, 69, 1229, 1231, 53, 69, 1233, 1235, 54, 69, 1249, 1251, 57, 69, 1245, 1247, 56, 69, 1241, 1243, 55, 69, 1253, 1255, 58, 69, 1257, 1259, 59, 69, 1277, 1279, 60, 69, 388, 389, 390, 62, 464, 465, 466, 62, 493, 494, 495, 62, 505, 506, 507, 62, 743, 744, 745, 62, 814, 815, 816, 62, 821, 822, 823, 62, 828, 829, 830, 62, 836, 837, 838, 62, 862, 863, 864, 62, 869, 870, 871, 62, 883, 884, 885, 62, 82, 83, 62, 889, 890, 69, 384, 385, 61, 1069, 1070, 1071, 69, 1065, 1066, 1067, 69, 460, 461, 61, 1079, 1080, 1081, 69, 490, 491, 61, 1083, 1084, 1085, 69, 369, 370, 371, 62, 1087, 1088, 1089, 69, 373, 374, 375, 62, 1091, 1092, 1093, 69, 380, 381, 382, 62, 1095, 1096, 1097, 69, 501, 502, 61, 1099, 1100, 1101, 69, 739, 740, 61, 1237, 1238, 1239, 69, 811, 812, 61, 1261, 1262, 1263, 69, 818, 819, 61, 1265, 1266, 1267, 69, 825, 826, 61, 1269, 1270, 1271, 69, 832, 833, 61, 1273, 1274, 1275, 69, 859, 860, 61, 1281, 1282, 1283, 69, 866, 867, 61, 1285, 1286, 1287, 69, 880, 881, 61, 1289, 1290, 1291, 69]
set_option maxRecDepth 100000 in
theorem mrW_in : ∀ w ∈ mrW, w ∈ GW := gw_by _ mrW_ps (by decide +kernel) (by decide +kernel)
def nsL : List (Nat × Nat × Nat) := [(1, 64, 83), (1, 114, 84), (4, 59, 84), (5, 61, 83), (6, 9, 34), (6, 31, 0), (6, 32, 57), (6, 35, 14), (6, 42, 36), (6, 57, 49)]
def nsw (m : Nat × Nat × Nat) : Cond := .methodLinkNest (cn m.1) m.2.1 (yN m.2.2) "BundleMill"
def nsW : List Cond := nsL.map nsw
def nsW_ps : List Nat := [579, 635, 773, 879, 90, 126, 190, 237, 293, 309]
set_option maxRecDepth 100000 in
theorem nsW_in : ∀ w ∈ nsW, w ∈ lw_tbl := mem_by _ nsW_ps (by decide +kernel)
def lyW : List Cond := (List.range 8).flatMap (fun c => u_ws (cn c) (tF c) (nf c))
def lyW_ps : List Nat := [163, 165, 167, 169, 171, 173, 175, 177, 179, 181, 183, 185, 265, 267, 269, 271, 273, 275, 277, 279, 281, 283, 285, 287, 108, 110, 112, 114, 116, 118, 300, 302, 304, 325, 327, 329, 331, 333, 335, 218, 220, 222, 224, 226, 228, 230, 232, 348, 350, 352, 354, 356, 358, 360, 362, 364, 366, 950, 952, 954, 956, 958, 960, 962, 964, 966, 968, 970, 972, 974, 976, 978, 980, 982, 984, 986, 988, 990, 992, 994, 996, 998, 1000, 1002, 1004, 1006, 1008, 1010, 1012, 1014, 1016, 1018, 1020, 1022, 1024, 1026, 1028, 1030, 1032, 1034, 1036, 1038, 1040, 1042, 1044, 1046, 1048, 1050, 1052, 1054, 1056, 1058, 1060, 1062]
set_option maxRecDepth 100000 in
theorem lyW_in : ∀ w ∈ lyW, w ∈ GW := gw_by _ lyW_ps (by decide +kernel) (by decide +kernel)
def inW : List Cond := (List.range 8).flatMap (fun c => [Cond.instantiable (cn c) (nf c), .initialized (cn c)])
def inW_ps : List Nat := [125, 64, 236, 66, 89, 63, 292, 67, 308, 68, 189, 65, 81, 62, 888, 69]
set_option maxRecDepth 100000 in
theorem inW_in : ∀ w ∈ inW, w ∈ GW := gw_by _ inW_ps (by decide +kernel) (by decide +kernel)
def clW : List Cond := clrL.map (fun q => Cond.classLink (cn q.1) q.2.1 (cn q.2.2))
def clW_ps : List Nat := [88, 121, 123, 235, 291, 307, 80, 887]
set_option maxRecDepth 100000 in
theorem clW_in : ∀ w ∈ clW, w ∈ GW := gw_by _ clW_ps (by decide +kernel) (by decide +kernel)
def crW : List Cond := crL.map (fun q => Cond.constant (cn q.1) q.2.1 q.2.2)
def crW_ps : List Nat := [602, 661, 724, 1172]
set_option maxRecDepth 100000 in
theorem crW_in : ∀ w ∈ crW, w ∈ GW := gw_by _ crW_ps (by decide +kernel) (by decide +kernel)
def arW : List Cond := [.arrayClass .int, .arrayClass .boolean, .arrayClass .long, .arrayClass .double]
def arW_ps : List Nat := [188, 290, 1293, 1294]
set_option maxRecDepth 100000 in
theorem arW_in : ∀ w ∈ arW, w ∈ GW := gw_by _ arW_ps (by decide +kernel) (by decide +kernel)
def aoW : List Cond := [.arrayOver (.object "BundleMill$Block"), .arrayOver (.object "BundleMill$Plan")]
def aoW_ps : List Nat := [122, 124]
set_option maxRecDepth 100000 in
theorem aoW_in : ∀ w ∈ aoW, w ∈ lw_tbl := mem_by _ aoW_ps (by decide +kernel)
def oiW : List Cond := oinL.map (fun q => Cond.methodLink (cn q.1) q.2 objectInit) ++ [.instanceMethod objectInit, .code objectInit ⟨#[0xb1]⟩ 1 none]
def oiW_ps : List Nat := [129, 240, 93, 296, 312, 193, 85, 892, 86, 87]
set_option maxRecDepth 100000 in
theorem oiW_in : ∀ w ∈ oiW, w ∈ GW := gw_by _ oiW_ps (by decide +kernel) (by decide +kernel)
