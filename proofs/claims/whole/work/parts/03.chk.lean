theorem all_ap {α : Type} {p : α → Bool} {a b : List α} (h1 : a.all p = true) (h2 : b.all p = true) : (a ++ b).all p = true := by rw [List.all_append, h1, h2]; rfl
def oinL : List (Nat × Nat) := [(0, 3), (1, 3), (2, 3), (3, 3), (4, 3), (5, 3), (6, 1), (7, 1)]
def isLd : Instr → Option Nat
  | .iload_n k => some k.val
  | .iload k => some k
  | .aload_n k => some k.val
  | .aload k => some k
  | .lload_n k => some k.val
  | .lload k => some k
  | .dload_n k => some k.val
  | .dload k => some k
  | .istore_n k => some k.val
  | .istore k => some k
  | .astore_n k => some k.val
  | .astore k => some k
  | .lstore_n k => some k.val
  | .lstore k => some k
  | .dstore_n k => some k.val
  | .dstore k => some k
  | _ => none
def ik : Instr → Nat
  | .invokevirtual _ => 0
  | .invokestatic _ => 1
  | .invokespecial _ => 2
  | _ => 3
def ia : Instr → Nat
  | .invokevirtual a => a
  | .invokestatic a => a
  | .invokespecial a => a
  | _ => 0
def kOf (q : Nat) : Nat := if q = 0 then 0 else if q = 1 ∨ q = 2 ∨ q = 5 then 1 else 2
def vld1 (z pc : Nat) (e : En) : Bool := match e with
  | (.iconst n, _, _, _, _, x) => Int32.ofInt n == x
  | (.bipush n, _, _, _, _, x) => (Int8.ofInt n).toInt32 == x
  | (.sipush n, _, _, _, _, x) => (Int16.ofInt n).toInt32 == x
  | (.ldc a, _, _, _, _, x) => crL.contains (oc z, a, x)
  | (.iinc a b, _, p, _, _, x) => a == p && Int32.ofInt b == x
  | (.ifCond _ o, _, p, _, _, _) => decide ((pc : Int) + o = (p : Int))
  | (.if_icmp _ o, _, p, _, _, _) => decide ((pc : Int) + o = (p : Int))
  | (.goto o, _, p, _, _, _) => decide ((pc : Int) + o = (p : Int))
  | (.getfield a, _, p, q, _, _) => frL.contains (oc z, a, p, q) && decide (q < nf p)
  | (.putfield a, _, p, q, _, _) => frL.contains (oc z, a, p, q) && decide (q < nf p)
  | (.new a, _, p, q, _, _) => if q = 0 then clrL.contains (oc z, a, p) else q == 1 && thL.any (fun t => t.1 == oc z && t.2.1 == a && t.2.2.2 == p && decide (decode (cc z) (pc + 4) = .ok (.invokespecial t.2.2.1, 3))) && decide (decode (cc z) (pc + 3) = .ok (.dup, 1)) && decide (decode (cc z) (pc + 7) = .ok (.athrow, 1)) && decide (6 ≤ rf z) && decide (89 ≤ rl z)
  | (.newarray t, _, p, _, _, _) => p == (match t with | .int => 20 | .boolean => 21 | .long => 24 | .double => 25 | _ => 0)
  | (.anewarray a, _, p, _, _, _) => clrL.contains (oc z, a, if p = 22 then 0 else 5)
  | (i, _, p, q, r, _) => match isLd i with
    | some k => k == p
    | none => if ik i = 3 then true else if q = 9 then ik i == 2 && oinL.contains (oc z, ia i) && decide (1 ≤ rf z) && decide (20 ≤ rl z) else if q = 8 then true else mrL.contains (oc z, ia i, p, q) && decide (q < 6) && decide (p < 166) && ik i == kOf q && r == ag p + (if kOf q = 1 then 0 else 1) && decide (rf p + 1 ≤ rf z) && decide (8 + (mL p + 11) + rl p ≤ rl z)
def vld (z pc : Nat) (e : En) : Bool := decide (decode (cc z) pc = .ok (e.1, e.2.1 - pc)) && decide (pc < e.2.1) && vld1 z pc e
set_option maxRecDepth 100000 in
theorem vk_0 : (tb 0).all (fun q => vld 0 q.1 q.2) = true := by decide +kernel
set_option maxRecDepth 100000 in
theorem vk_1 : (tb 1).all (fun q => vld 1 q.1 q.2) = true := by decide +kernel
set_option maxRecDepth 100000 in
theorem vk_2 : (tb 2).all (fun q => vld 2 q.1 q.2) = true := by decide +kernel
set_option maxRecDepth 100000 in
theorem vk_3 : (tb 3).all (fun q => vld 3 q.1 q.2) = true := by decide +kernel
set_option maxRecDepth 100000 in
theorem vk_4 : (tb 4).all (fun q => vld 4 q.1 q.2) = true := by decide +kernel
set_option maxRecDepth 100000 in
theorem vk_5 : (tb 5).all (fun q => vld 5 q.1 q.2) = true := by decide +kernel
set_option maxRecDepth 100000 in
theorem vk_6 : (tb 6).all (fun q => vld 6 q.1 q.2) = true := by decide +kernel
set_option maxRecDepth 100000 in
theorem vk_7 : (tb 7).all (fun q => vld 7 q.1 q.2) = true := by decide +kernel
set_option maxRecDepth 100000 in
theorem vk_8 : (tb 8).all (fun q => vld 8 q.1 q.2) = true := by decide +kernel
set_option maxRecDepth 100000 in
theorem vk_9 : (tb 9).all (fun q => vld 9 q.1 q.2) = true := by decide +kernel
set_option maxRecDepth 100000 in
theorem vk_10 : (tb 10).all (fun q => vld 10 q.1 q.2) = true := by decide +kernel
set_option maxRecDepth 100000 in
theorem vk_11_0 : tb_11_0.all (fun q => vld 11 q.1 q.2) = true := by decide +kernel
set_option maxRecDepth 100000 in
theorem vk_11_1 : tb_11_1.all (fun q => vld 11 q.1 q.2) = true := by decide +kernel
theorem vk_11 : (tb 11).all (fun q => vld 11 q.1 q.2) = true := (all_ap vk_11_0 vk_11_1 : tb_11.all (fun q => vld 11 q.1 q.2) = true)
set_option maxRecDepth 100000 in
theorem vk_12 : (tb 12).all (fun q => vld 12 q.1 q.2) = true := by decide +kernel
set_option maxRecDepth 100000 in
theorem vk_13 : (tb 13).all (fun q => vld 13 q.1 q.2) = true := by decide +kernel
set_option maxRecDepth 100000 in
theorem vk_14 : (tb 14).all (fun q => vld 14 q.1 q.2) = true := by decide +kernel
set_option maxRecDepth 100000 in
theorem vk_15 : (tb 15).all (fun q => vld 15 q.1 q.2) = true := by decide +kernel
set_option maxRecDepth 100000 in
theorem vk_16 : (tb 16).all (fun q => vld 16 q.1 q.2) = true := by decide +kernel
set_option maxRecDepth 100000 in
theorem vk_17 : (tb 17).all (fun q => vld 17 q.1 q.2) = true := by decide +kernel
set_option maxRecDepth 100000 in
theorem vk_18_0 : tb_18_0.all (fun q => vld 18 q.1 q.2) = true := by decide +kernel
set_option maxRecDepth 100000 in
theorem vk_18_1 : tb_18_1.all (fun q => vld 18 q.1 q.2) = true := by decide +kernel
set_option maxRecDepth 100000 in
theorem vk_18_2 : tb_18_2.all (fun q => vld 18 q.1 q.2) = true := by decide +kernel
theorem vk_18 : (tb 18).all (fun q => vld 18 q.1 q.2) = true := (all_ap vk_18_0 (all_ap vk_18_1 vk_18_2) : tb_18.all (fun q => vld 18 q.1 q.2) = true)
set_option maxRecDepth 100000 in
theorem vk_19_0 : tb_19_0.all (fun q => vld 19 q.1 q.2) = true := by decide +kernel
set_option maxRecDepth 100000 in
theorem vk_19_1 : tb_19_1.all (fun q => vld 19 q.1 q.2) = true := by decide +kernel
theorem vk_19 : (tb 19).all (fun q => vld 19 q.1 q.2) = true := (all_ap vk_19_0 vk_19_1 : tb_19.all (fun q => vld 19 q.1 q.2) = true)
set_option maxRecDepth 100000 in
theorem vk_20 : (tb 20).all (fun q => vld 20 q.1 q.2) = true := by decide +kernel
set_option maxRecDepth 100000 in
theorem vk_21 : (tb 21).all (fun q => vld 21 q.1 q.2) = true := by decide +kernel
set_option maxRecDepth 100000 in
theorem vk_22_0 : tb_22_0.all (fun q => vld 22 q.1 q.2) = true := by decide +kernel
set_option maxRecDepth 100000 in
theorem vk_22_1 : tb_22_1.all (fun q => vld 22 q.1 q.2) = true := by decide +kernel
theorem vk_22 : (tb 22).all (fun q => vld 22 q.1 q.2) = true := (all_ap vk_22_0 vk_22_1 : tb_22.all (fun q => vld 22 q.1 q.2) = true)
set_option maxRecDepth 100000 in
theorem vk_23_0 : tb_23_0.all (fun q => vld 23 q.1 q.2) = true := by decide +kernel
set_option maxRecDepth 100000 in
theorem vk_23_1 : tb_23_1.all (fun q => vld 23 q.1 q.2) = true := by decide +kernel
theorem vk_23 : (tb 23).all (fun q => vld 23 q.1 q.2) = true := (all_ap vk_23_0 vk_23_1 : tb_23.all (fun q => vld 23 q.1 q.2) = true)
set_option maxRecDepth 100000 in
theorem vk_24_0 : tb_24_0.all (fun q => vld 24 q.1 q.2) = true := by decide +kernel
set_option maxRecDepth 100000 in
theorem vk_24_1 : tb_24_1.all (fun q => vld 24 q.1 q.2) = true := by decide +kernel
theorem vk_24 : (tb 24).all (fun q => vld 24 q.1 q.2) = true := (all_ap vk_24_0 vk_24_1 : tb_24.all (fun q => vld 24 q.1 q.2) = true)
set_option maxRecDepth 100000 in
theorem vk_25 : (tb 25).all (fun q => vld 25 q.1 q.2) = true := by decide +kernel
set_option maxRecDepth 100000 in
theorem vk_26 : (tb 26).all (fun q => vld 26 q.1 q.2) = true := by decide +kernel
set_option maxRecDepth 100000 in
theorem vk_27 : (tb 27).all (fun q => vld 27 q.1 q.2) = true := by decide +kernel
set_option maxRecDepth 100000 in
theorem vk_28 : (tb 28).all (fun q => vld 28 q.1 q.2) = true := by decide +kernel
set_option maxRecDepth 100000 in
theorem vk_29 : (tb 29).all (fun q => vld 29 q.1 q.2) = true := by decide +kernel
set_option maxRecDepth 100000 in
theorem vk_30_0 : tb_30_0.all (fun q => vld 30 q.1 q.2) = true := by decide +kernel
set_option maxRecDepth 100000 in
theorem vk_30_1 : tb_30_1.all (fun q => vld 30 q.1 q.2) = true := by decide +kernel
theorem vk_30 : (tb 30).all (fun q => vld 30 q.1 q.2) = true := (all_ap vk_30_0 vk_30_1 : tb_30.all (fun q => vld 30 q.1 q.2) = true)
set_option maxRecDepth 100000 in
theorem vk_31_0 : tb_31_0.all (fun q => vld 31 q.1 q.2) = true := by decide +kernel
set_option maxRecDepth 100000 in
theorem vk_31_1 : tb_31_1.all (fun q => vld 31 q.1 q.2) = true := by decide +kernel
theorem vk_31 : (tb 31).all (fun q => vld 31 q.1 q.2) = true := (all_ap vk_31_0 vk_31_1 : tb_31.all (fun q => vld 31 q.1 q.2) = true)
set_option maxRecDepth 100000 in
theorem vk_32_0 : tb_32_0.all (fun q => vld 32 q.1 q.2) = true := by decide +kernel
set_option maxRecDepth 100000 in
theorem vk_32_1 : tb_32_1.all (fun q => vld 32 q.1 q.2) = true := by decide +kernel
theorem vk_32 : (tb 32).all (fun q => vld 32 q.1 q.2) = true := (all_ap vk_32_0 vk_32_1 : tb_32.all (fun q => vld 32 q.1 q.2) = true)
set_option maxRecDepth 100000 in
theorem vk_33 : (tb 33).all (fun q => vld 33 q.1 q.2) = true := by decide +kernel
set_option maxRecDepth 100000 in
theorem vk_34 : (tb 34).all (fun q => vld 34 q.1 q.2) = true := by decide +kernel
set_option maxRecDepth 100000 in
theorem vk_35 : (tb 35).all (fun q => vld 35 q.1 q.2) = true := by decide +kernel
set_option maxRecDepth 100000 in
theorem vk_36 : (tb 36).all (fun q => vld 36 q.1 q.2) = true := by decide +kernel
set_option maxRecDepth 100000 in
theorem vk_37 : (tb 37).all (fun q => vld 37 q.1 q.2) = true := by decide +kernel
set_option maxRecDepth 100000 in
theorem vk_38 : (tb 38).all (fun q => vld 38 q.1 q.2) = true := by decide +kernel
set_option maxRecDepth 100000 in
theorem vk_39 : (tb 39).all (fun q => vld 39 q.1 q.2) = true := by decide +kernel
set_option maxRecDepth 100000 in
theorem vk_40 : (tb 40).all (fun q => vld 40 q.1 q.2) = true := by decide +kernel
set_option maxRecDepth 100000 in
theorem vk_41 : (tb 41).all (fun q => vld 41 q.1 q.2) = true := by decide +kernel
set_option maxRecDepth 100000 in
theorem vk_42_0 : tb_42_0.all (fun q => vld 42 q.1 q.2) = true := by decide +kernel
set_option maxRecDepth 100000 in
theorem vk_42_1 : tb_42_1.all (fun q => vld 42 q.1 q.2) = true := by decide +kernel
theorem vk_42 : (tb 42).all (fun q => vld 42 q.1 q.2) = true := (all_ap vk_42_0 vk_42_1 : tb_42.all (fun q => vld 42 q.1 q.2) = true)
set_option maxRecDepth 100000 in
theorem vk_43_0 : tb_43_0.all (fun q => vld 43 q.1 q.2) = true := by decide +kernel
set_option maxRecDepth 100000 in
theorem vk_43_1 : tb_43_1.all (fun q => vld 43 q.1 q.2) = true := by decide +kernel
theorem vk_43 : (tb 43).all (fun q => vld 43 q.1 q.2) = true := (all_ap vk_43_0 vk_43_1 : tb_43.all (fun q => vld 43 q.1 q.2) = true)
set_option maxRecDepth 100000 in
theorem vk_44 : (tb 44).all (fun q => vld 44 q.1 q.2) = true := by decide +kernel
set_option maxRecDepth 100000 in
theorem vk_45_0 : tb_45_0.all (fun q => vld 45 q.1 q.2) = true := by decide +kernel
set_option maxRecDepth 100000 in
theorem vk_45_1 : tb_45_1.all (fun q => vld 45 q.1 q.2) = true := by decide +kernel
set_option maxRecDepth 100000 in
theorem vk_45_2 : tb_45_2.all (fun q => vld 45 q.1 q.2) = true := by decide +kernel
theorem vk_45 : (tb 45).all (fun q => vld 45 q.1 q.2) = true := (all_ap vk_45_0 (all_ap vk_45_1 vk_45_2) : tb_45.all (fun q => vld 45 q.1 q.2) = true)
set_option maxRecDepth 100000 in
theorem vk_46 : (tb 46).all (fun q => vld 46 q.1 q.2) = true := by decide +kernel
set_option maxRecDepth 100000 in
theorem vk_47 : (tb 47).all (fun q => vld 47 q.1 q.2) = true := by decide +kernel
set_option maxRecDepth 100000 in
theorem vk_48 : (tb 48).all (fun q => vld 48 q.1 q.2) = true := by decide +kernel
set_option maxRecDepth 100000 in
theorem vk_49 : (tb 49).all (fun q => vld 49 q.1 q.2) = true := by decide +kernel
set_option maxRecDepth 100000 in
theorem vk_50 : (tb 50).all (fun q => vld 50 q.1 q.2) = true := by decide +kernel
set_option maxRecDepth 100000 in
theorem vk_51 : (tb 51).all (fun q => vld 51 q.1 q.2) = true := by decide +kernel
set_option maxRecDepth 100000 in
theorem vk_52_0 : tb_52_0.all (fun q => vld 52 q.1 q.2) = true := by decide +kernel
set_option maxRecDepth 100000 in
theorem vk_52_1 : tb_52_1.all (fun q => vld 52 q.1 q.2) = true := by decide +kernel
theorem vk_52 : (tb 52).all (fun q => vld 52 q.1 q.2) = true := (all_ap vk_52_0 vk_52_1 : tb_52.all (fun q => vld 52 q.1 q.2) = true)
set_option maxRecDepth 100000 in
theorem vk_53 : (tb 53).all (fun q => vld 53 q.1 q.2) = true := by decide +kernel
set_option maxRecDepth 100000 in
theorem vk_54 : (tb 54).all (fun q => vld 54 q.1 q.2) = true := by decide +kernel
set_option maxRecDepth 100000 in
theorem vk_55 : (tb 55).all (fun q => vld 55 q.1 q.2) = true := by decide +kernel
set_option maxRecDepth 100000 in
theorem vk_56 : (tb 56).all (fun q => vld 56 q.1 q.2) = true := by decide +kernel
set_option maxRecDepth 100000 in
theorem vk_57 : (tb 57).all (fun q => vld 57 q.1 q.2) = true := by decide +kernel
set_option maxRecDepth 100000 in
theorem vk_58 : (tb 58).all (fun q => vld 58 q.1 q.2) = true := by decide +kernel
set_option maxRecDepth 100000 in
theorem vk_59 : (tb 59).all (fun q => vld 59 q.1 q.2) = true := by decide +kernel
set_option maxRecDepth 100000 in
theorem vk_60 : (tb 60).all (fun q => vld 60 q.1 q.2) = true := by decide +kernel
set_option maxRecDepth 100000 in
theorem vk_61_0 : tb_61_0.all (fun q => vld 61 q.1 q.2) = true := by decide +kernel
set_option maxRecDepth 100000 in
theorem vk_61_1 : tb_61_1.all (fun q => vld 61 q.1 q.2) = true := by decide +kernel
theorem vk_61 : (tb 61).all (fun q => vld 61 q.1 q.2) = true := (all_ap vk_61_0 vk_61_1 : tb_61.all (fun q => vld 61 q.1 q.2) = true)
set_option maxRecDepth 100000 in
theorem vk_62 : (tb 62).all (fun q => vld 62 q.1 q.2) = true := by decide +kernel
set_option maxRecDepth 100000 in
theorem vk_63 : (tb 63).all (fun q => vld 63 q.1 q.2) = true := by decide +kernel
set_option maxRecDepth 100000 in
theorem vk_64_0 : tb_64_0.all (fun q => vld 64 q.1 q.2) = true := by decide +kernel
set_option maxRecDepth 100000 in
theorem vk_64_1 : tb_64_1.all (fun q => vld 64 q.1 q.2) = true := by decide +kernel
theorem vk_64 : (tb 64).all (fun q => vld 64 q.1 q.2) = true := (all_ap vk_64_0 vk_64_1 : tb_64.all (fun q => vld 64 q.1 q.2) = true)
set_option maxRecDepth 100000 in
theorem vk_65_0 : tb_65_0.all (fun q => vld 65 q.1 q.2) = true := by decide +kernel
set_option maxRecDepth 100000 in
theorem vk_65_1 : tb_65_1.all (fun q => vld 65 q.1 q.2) = true := by decide +kernel
theorem vk_65 : (tb 65).all (fun q => vld 65 q.1 q.2) = true := (all_ap vk_65_0 vk_65_1 : tb_65.all (fun q => vld 65 q.1 q.2) = true)
set_option maxRecDepth 100000 in
theorem vk_66_0 : tb_66_0.all (fun q => vld 66 q.1 q.2) = true := by decide +kernel
set_option maxRecDepth 100000 in
theorem vk_66_1 : tb_66_1.all (fun q => vld 66 q.1 q.2) = true := by decide +kernel
theorem vk_66 : (tb 66).all (fun q => vld 66 q.1 q.2) = true := (all_ap vk_66_0 vk_66_1 : tb_66.all (fun q => vld 66 q.1 q.2) = true)
set_option maxRecDepth 100000 in
theorem vk_67_0 : tb_67_0.all (fun q => vld 67 q.1 q.2) = true := by decide +kernel
set_option maxRecDepth 100000 in
theorem vk_67_1 : tb_67_1.all (fun q => vld 67 q.1 q.2) = true := by decide +kernel
theorem vk_67 : (tb 67).all (fun q => vld 67 q.1 q.2) = true := (all_ap vk_67_0 vk_67_1 : tb_67.all (fun q => vld 67 q.1 q.2) = true)
set_option maxRecDepth 100000 in
theorem vk_68 : (tb 68).all (fun q => vld 68 q.1 q.2) = true := by decide +kernel
set_option maxRecDepth 100000 in
theorem vk_69 : (tb 69).all (fun q => vld 69 q.1 q.2) = true := by decide +kernel
set_option maxRecDepth 100000 in
theorem vk_70 : (tb 70).all (fun q => vld 70 q.1 q.2) = true := by decide +kernel
set_option maxRecDepth 100000 in
theorem vk_71 : (tb 71).all (fun q => vld 71 q.1 q.2) = true := by decide +kernel
set_option maxRecDepth 100000 in
theorem vk_72 : (tb 72).all (fun q => vld 72 q.1 q.2) = true := by decide +kernel
set_option maxRecDepth 100000 in
theorem vk_73 : (tb 73).all (fun q => vld 73 q.1 q.2) = true := by decide +kernel
set_option maxRecDepth 100000 in
theorem vk_74 : (tb 74).all (fun q => vld 74 q.1 q.2) = true := by decide +kernel
set_option maxRecDepth 100000 in
theorem vk_75 : (tb 75).all (fun q => vld 75 q.1 q.2) = true := by decide +kernel
set_option maxRecDepth 100000 in
theorem vk_76_0 : tb_76_0.all (fun q => vld 76 q.1 q.2) = true := by decide +kernel
set_option maxRecDepth 100000 in
theorem vk_76_1 : tb_76_1.all (fun q => vld 76 q.1 q.2) = true := by decide +kernel
theorem vk_76 : (tb 76).all (fun q => vld 76 q.1 q.2) = true := (all_ap vk_76_0 vk_76_1 : tb_76.all (fun q => vld 76 q.1 q.2) = true)
set_option maxRecDepth 100000 in
theorem vk_77_0 : tb_77_0.all (fun q => vld 77 q.1 q.2) = true := by decide +kernel
set_option maxRecDepth 100000 in
theorem vk_77_1 : tb_77_1.all (fun q => vld 77 q.1 q.2) = true := by decide +kernel
theorem vk_77 : (tb 77).all (fun q => vld 77 q.1 q.2) = true := (all_ap vk_77_0 vk_77_1 : tb_77.all (fun q => vld 77 q.1 q.2) = true)
set_option maxRecDepth 100000 in
theorem vk_78 : (tb 78).all (fun q => vld 78 q.1 q.2) = true := by decide +kernel
set_option maxRecDepth 100000 in
theorem vk_79 : (tb 79).all (fun q => vld 79 q.1 q.2) = true := by decide +kernel
set_option maxRecDepth 100000 in
theorem vk_80 : (tb 80).all (fun q => vld 80 q.1 q.2) = true := by decide +kernel
set_option maxRecDepth 100000 in
theorem vk_81 : (tb 81).all (fun q => vld 81 q.1 q.2) = true := by decide +kernel
set_option maxRecDepth 100000 in
theorem vk_82 : (tb 82).all (fun q => vld 82 q.1 q.2) = true := by decide +kernel
set_option maxRecDepth 100000 in
theorem vk_83 : (tb 83).all (fun q => vld 83 q.1 q.2) = true := by decide +kernel
set_option maxRecDepth 100000 in
theorem vk_84 : (tb 84).all (fun q => vld 84 q.1 q.2) = true := by decide +kernel
set_option maxRecDepth 100000 in
theorem vk_85 : (tb 85).all (fun q => vld 85 q.1 q.2) = true := by decide +kernel
set_option maxRecDepth 100000 in
theorem vk_86 : (tb 86).all (fun q => vld 86 q.1 q.2) = true := by decide +kernel
set_option maxRecDepth 100000 in
theorem vk_87 : (tb 87).all (fun q => vld 87 q.1 q.2) = true := by decide +kernel
set_option maxRecDepth 100000 in
theorem vk_88_0 : tb_88_0.all (fun q => vld 88 q.1 q.2) = true := by decide +kernel
set_option maxRecDepth 100000 in
theorem vk_88_1 : tb_88_1.all (fun q => vld 88 q.1 q.2) = true := by decide +kernel
set_option maxRecDepth 100000 in
theorem vk_88_2 : tb_88_2.all (fun q => vld 88 q.1 q.2) = true := by decide +kernel
theorem vk_88 : (tb 88).all (fun q => vld 88 q.1 q.2) = true := (all_ap vk_88_0 (all_ap vk_88_1 vk_88_2) : tb_88.all (fun q => vld 88 q.1 q.2) = true)
set_option maxRecDepth 100000 in
theorem vk_89 : (tb 89).all (fun q => vld 89 q.1 q.2) = true := by decide +kernel
set_option maxRecDepth 100000 in
theorem vk_90_0 : tb_90_0.all (fun q => vld 90 q.1 q.2) = true := by decide +kernel
set_option maxRecDepth 100000 in
theorem vk_90_1 : tb_90_1.all (fun q => vld 90 q.1 q.2) = true := by decide +kernel
theorem vk_90 : (tb 90).all (fun q => vld 90 q.1 q.2) = true := (all_ap vk_90_0 vk_90_1 : tb_90.all (fun q => vld 90 q.1 q.2) = true)
set_option maxRecDepth 100000 in
theorem vk_91_0 : tb_91_0.all (fun q => vld 91 q.1 q.2) = true := by decide +kernel
set_option maxRecDepth 100000 in
theorem vk_91_1 : tb_91_1.all (fun q => vld 91 q.1 q.2) = true := by decide +kernel
theorem vk_91 : (tb 91).all (fun q => vld 91 q.1 q.2) = true := (all_ap vk_91_0 vk_91_1 : tb_91.all (fun q => vld 91 q.1 q.2) = true)
set_option maxRecDepth 100000 in
theorem vk_92 : (tb 92).all (fun q => vld 92 q.1 q.2) = true := by decide +kernel
set_option maxRecDepth 100000 in
theorem vk_93_0 : tb_93_0.all (fun q => vld 93 q.1 q.2) = true := by decide +kernel
set_option maxRecDepth 100000 in
theorem vk_93_1 : tb_93_1.all (fun q => vld 93 q.1 q.2) = true := by decide +kernel
set_option maxRecDepth 100000 in
theorem vk_93_2 : tb_93_2.all (fun q => vld 93 q.1 q.2) = true := by decide +kernel
set_option maxRecDepth 100000 in
theorem vk_93_3 : tb_93_3.all (fun q => vld 93 q.1 q.2) = true := by decide +kernel
theorem vk_93 : (tb 93).all (fun q => vld 93 q.1 q.2) = true := (all_ap vk_93_0 (all_ap vk_93_1 (all_ap vk_93_2 vk_93_3)) : tb_93.all (fun q => vld 93 q.1 q.2) = true)
set_option maxRecDepth 100000 in
theorem vk_94 : (tb 94).all (fun q => vld 94 q.1 q.2) = true := by decide +kernel
set_option maxRecDepth 100000 in
theorem vk_95 : (tb 95).all (fun q => vld 95 q.1 q.2) = true := by decide +kernel
set_option maxRecDepth 100000 in
theorem vk_96 : (tb 96).all (fun q => vld 96 q.1 q.2) = true := by decide +kernel
set_option maxRecDepth 100000 in
theorem vk_97_0 : tb_97_0.all (fun q => vld 97 q.1 q.2) = true := by decide +kernel
set_option maxRecDepth 100000 in
theorem vk_97_1 : tb_97_1.all (fun q => vld 97 q.1 q.2) = true := by decide +kernel
theorem vk_97 : (tb 97).all (fun q => vld 97 q.1 q.2) = true := (all_ap vk_97_0 vk_97_1 : tb_97.all (fun q => vld 97 q.1 q.2) = true)
set_option maxRecDepth 100000 in
theorem vk_98_0 : tb_98_0.all (fun q => vld 98 q.1 q.2) = true := by decide +kernel
set_option maxRecDepth 100000 in
theorem vk_98_1 : tb_98_1.all (fun q => vld 98 q.1 q.2) = true := by decide +kernel
theorem vk_98 : (tb 98).all (fun q => vld 98 q.1 q.2) = true := (all_ap vk_98_0 vk_98_1 : tb_98.all (fun q => vld 98 q.1 q.2) = true)
set_option maxRecDepth 100000 in
theorem vk_99_0 : tb_99_0.all (fun q => vld 99 q.1 q.2) = true := by decide +kernel
set_option maxRecDepth 100000 in
theorem vk_99_1 : tb_99_1.all (fun q => vld 99 q.1 q.2) = true := by decide +kernel
set_option maxRecDepth 100000 in
theorem vk_99_2 : tb_99_2.all (fun q => vld 99 q.1 q.2) = true := by decide +kernel
theorem vk_99 : (tb 99).all (fun q => vld 99 q.1 q.2) = true := (all_ap vk_99_0 (all_ap vk_99_1 vk_99_2) : tb_99.all (fun q => vld 99 q.1 q.2) = true)
set_option maxRecDepth 100000 in
theorem vk_100 : (tb 100).all (fun q => vld 100 q.1 q.2) = true := by decide +kernel
set_option maxRecDepth 100000 in
theorem vk_101 : (tb 101).all (fun q => vld 101 q.1 q.2) = true := by decide +kernel
set_option maxRecDepth 100000 in
theorem vk_102 : (tb 102).all (fun q => vld 102 q.1 q.2) = true := by decide +kernel
set_option maxRecDepth 100000 in
theorem vk_103 : (tb 103).all (fun q => vld 103 q.1 q.2) = true := by decide +kernel
set_option maxRecDepth 100000 in
theorem vk_104 : (tb 104).all (fun q => vld 104 q.1 q.2) = true := by decide +kernel
set_option maxRecDepth 100000 in
theorem vk_105 : (tb 105).all (fun q => vld 105 q.1 q.2) = true := by decide +kernel
set_option maxRecDepth 100000 in
theorem vk_106 : (tb 106).all (fun q => vld 106 q.1 q.2) = true := by decide +kernel
set_option maxRecDepth 100000 in
theorem vk_107_0 : tb_107_0.all (fun q => vld 107 q.1 q.2) = true := by decide +kernel
set_option maxRecDepth 100000 in
theorem vk_107_1 : tb_107_1.all (fun q => vld 107 q.1 q.2) = true := by decide +kernel
theorem vk_107 : (tb 107).all (fun q => vld 107 q.1 q.2) = true := (all_ap vk_107_0 vk_107_1 : tb_107.all (fun q => vld 107 q.1 q.2) = true)
set_option maxRecDepth 100000 in
theorem vk_108_0 : tb_108_0.all (fun q => vld 108 q.1 q.2) = true := by decide +kernel
set_option maxRecDepth 100000 in
theorem vk_108_1 : tb_108_1.all (fun q => vld 108 q.1 q.2) = true := by decide +kernel
theorem vk_108 : (tb 108).all (fun q => vld 108 q.1 q.2) = true := (all_ap vk_108_0 vk_108_1 : tb_108.all (fun q => vld 108 q.1 q.2) = true)
set_option maxRecDepth 100000 in
theorem vk_109_0 : tb_109_0.all (fun q => vld 109 q.1 q.2) = true := by decide +kernel
set_option maxRecDepth 100000 in
theorem vk_109_1 : tb_109_1.all (fun q => vld 109 q.1 q.2) = true := by decide +kernel
set_option maxRecDepth 100000 in
theorem vk_109_2 : tb_109_2.all (fun q => vld 109 q.1 q.2) = true := by decide +kernel
theorem vk_109 : (tb 109).all (fun q => vld 109 q.1 q.2) = true := (all_ap vk_109_0 (all_ap vk_109_1 vk_109_2) : tb_109.all (fun q => vld 109 q.1 q.2) = true)
set_option maxRecDepth 100000 in
theorem vk_110 : (tb 110).all (fun q => vld 110 q.1 q.2) = true := by decide +kernel
set_option maxRecDepth 100000 in
theorem vk_111_0 : tb_111_0.all (fun q => vld 111 q.1 q.2) = true := by decide +kernel
set_option maxRecDepth 100000 in
theorem vk_111_1 : tb_111_1.all (fun q => vld 111 q.1 q.2) = true := by decide +kernel
set_option maxRecDepth 100000 in
theorem vk_111_2 : tb_111_2.all (fun q => vld 111 q.1 q.2) = true := by decide +kernel
theorem vk_111 : (tb 111).all (fun q => vld 111 q.1 q.2) = true := (all_ap vk_111_0 (all_ap vk_111_1 vk_111_2) : tb_111.all (fun q => vld 111 q.1 q.2) = true)
set_option maxRecDepth 100000 in
theorem vk_112_0 : tb_112_0.all (fun q => vld 112 q.1 q.2) = true := by decide +kernel
set_option maxRecDepth 100000 in
theorem vk_112_1 : tb_112_1.all (fun q => vld 112 q.1 q.2) = true := by decide +kernel
set_option maxRecDepth 100000 in
theorem vk_112_2 : tb_112_2.all (fun q => vld 112 q.1 q.2) = true := by decide +kernel
set_option maxRecDepth 100000 in
theorem vk_112_3 : tb_112_3.all (fun q => vld 112 q.1 q.2) = true := by decide +kernel
theorem vk_112 : (tb 112).all (fun q => vld 112 q.1 q.2) = true := (all_ap vk_112_0 (all_ap vk_112_1 (all_ap vk_112_2 vk_112_3)) : tb_112.all (fun q => vld 112 q.1 q.2) = true)
set_option maxRecDepth 100000 in
theorem vk_113 : (tb 113).all (fun q => vld 113 q.1 q.2) = true := by decide +kernel
set_option maxRecDepth 100000 in
theorem vk_114 : (tb 114).all (fun q => vld 114 q.1 q.2) = true := by decide +kernel
set_option maxRecDepth 100000 in
theorem vk_115 : (tb 115).all (fun q => vld 115 q.1 q.2) = true := by decide +kernel
set_option maxRecDepth 100000 in
theorem vk_116 : (tb 116).all (fun q => vld 116 q.1 q.2) = true := by decide +kernel
set_option maxRecDepth 100000 in
theorem vk_117 : (tb 117).all (fun q => vld 117 q.1 q.2) = true := by decide +kernel
set_option maxRecDepth 100000 in
theorem vk_118_0 : tb_118_0.all (fun q => vld 118 q.1 q.2) = true := by decide +kernel
set_option maxRecDepth 100000 in
theorem vk_118_1 : tb_118_1.all (fun q => vld 118 q.1 q.2) = true := by decide +kernel
theorem vk_118 : (tb 118).all (fun q => vld 118 q.1 q.2) = true := (all_ap vk_118_0 vk_118_1 : tb_118.all (fun q => vld 118 q.1 q.2) = true)
set_option maxRecDepth 100000 in
theorem vk_119 : (tb 119).all (fun q => vld 119 q.1 q.2) = true := by decide +kernel
set_option maxRecDepth 100000 in
theorem vk_120_0 : tb_120_0.all (fun q => vld 120 q.1 q.2) = true := by decide +kernel
set_option maxRecDepth 100000 in
theorem vk_120_1 : tb_120_1.all (fun q => vld 120 q.1 q.2) = true := by decide +kernel
theorem vk_120 : (tb 120).all (fun q => vld 120 q.1 q.2) = true := (all_ap vk_120_0 vk_120_1 : tb_120.all (fun q => vld 120 q.1 q.2) = true)
set_option maxRecDepth 100000 in
theorem vk_121 : (tb 121).all (fun q => vld 121 q.1 q.2) = true := by decide +kernel
set_option maxRecDepth 100000 in
theorem vk_122_0 : tb_122_0.all (fun q => vld 122 q.1 q.2) = true := by decide +kernel
set_option maxRecDepth 100000 in
theorem vk_122_1 : tb_122_1.all (fun q => vld 122 q.1 q.2) = true := by decide +kernel
theorem vk_122 : (tb 122).all (fun q => vld 122 q.1 q.2) = true := (all_ap vk_122_0 vk_122_1 : tb_122.all (fun q => vld 122 q.1 q.2) = true)
set_option maxRecDepth 100000 in
theorem vk_123 : (tb 123).all (fun q => vld 123 q.1 q.2) = true := by decide +kernel
set_option maxRecDepth 100000 in
theorem vk_124 : (tb 124).all (fun q => vld 124 q.1 q.2) = true := by decide +kernel
set_option maxRecDepth 100000 in
theorem vk_125_0 : tb_125_0.all (fun q => vld 125 q.1 q.2) = true := by decide +kernel
set_option maxRecDepth 100000 in
theorem vk_125_1 : tb_125_1.all (fun q => vld 125 q.1 q.2) = true := by decide +kernel
set_option maxRecDepth 100000 in
theorem vk_125_2 : tb_125_2.all (fun q => vld 125 q.1 q.2) = true := by decide +kernel
theorem vk_125 : (tb 125).all (fun q => vld 125 q.1 q.2) = true := (all_ap vk_125_0 (all_ap vk_125_1 vk_125_2) : tb_125.all (fun q => vld 125 q.1 q.2) = true)
set_option maxRecDepth 100000 in
theorem vk_126_0 : tb_126_0.all (fun q => vld 126 q.1 q.2) = true := by decide +kernel
set_option maxRecDepth 100000 in
theorem vk_126_1 : tb_126_1.all (fun q => vld 126 q.1 q.2) = true := by decide +kernel
set_option maxRecDepth 100000 in
theorem vk_126_2 : tb_126_2.all (fun q => vld 126 q.1 q.2) = true := by decide +kernel
theorem vk_126 : (tb 126).all (fun q => vld 126 q.1 q.2) = true := (all_ap vk_126_0 (all_ap vk_126_1 vk_126_2) : tb_126.all (fun q => vld 126 q.1 q.2) = true)
set_option maxRecDepth 100000 in
theorem vk_127_0 : tb_127_0.all (fun q => vld 127 q.1 q.2) = true := by decide +kernel
set_option maxRecDepth 100000 in
theorem vk_127_1 : tb_127_1.all (fun q => vld 127 q.1 q.2) = true := by decide +kernel
theorem vk_127 : (tb 127).all (fun q => vld 127 q.1 q.2) = true := (all_ap vk_127_0 vk_127_1 : tb_127.all (fun q => vld 127 q.1 q.2) = true)
set_option maxRecDepth 100000 in
theorem vk_128 : (tb 128).all (fun q => vld 128 q.1 q.2) = true := by decide +kernel
set_option maxRecDepth 100000 in
theorem vk_129_0 : tb_129_0.all (fun q => vld 129 q.1 q.2) = true := by decide +kernel
set_option maxRecDepth 100000 in
theorem vk_129_1 : tb_129_1.all (fun q => vld 129 q.1 q.2) = true := by decide +kernel
set_option maxRecDepth 100000 in
theorem vk_129_2 : tb_129_2.all (fun q => vld 129 q.1 q.2) = true := by decide +kernel
theorem vk_129 : (tb 129).all (fun q => vld 129 q.1 q.2) = true := (all_ap vk_129_0 (all_ap vk_129_1 vk_129_2) : tb_129.all (fun q => vld 129 q.1 q.2) = true)
set_option maxRecDepth 100000 in
theorem vk_130 : (tb 130).all (fun q => vld 130 q.1 q.2) = true := by decide +kernel
set_option maxRecDepth 100000 in
theorem vk_131_0 : tb_131_0.all (fun q => vld 131 q.1 q.2) = true := by decide +kernel
set_option maxRecDepth 100000 in
theorem vk_131_1 : tb_131_1.all (fun q => vld 131 q.1 q.2) = true := by decide +kernel
set_option maxRecDepth 100000 in
theorem vk_131_2 : tb_131_2.all (fun q => vld 131 q.1 q.2) = true := by decide +kernel
set_option maxRecDepth 100000 in
theorem vk_131_3 : tb_131_3.all (fun q => vld 131 q.1 q.2) = true := by decide +kernel
theorem vk_131 : (tb 131).all (fun q => vld 131 q.1 q.2) = true := (all_ap vk_131_0 (all_ap vk_131_1 (all_ap vk_131_2 vk_131_3)) : tb_131.all (fun q => vld 131 q.1 q.2) = true)
set_option maxRecDepth 100000 in
theorem vk_132_0 : tb_132_0.all (fun q => vld 132 q.1 q.2) = true := by decide +kernel
set_option maxRecDepth 100000 in
theorem vk_132_1 : tb_132_1.all (fun q => vld 132 q.1 q.2) = true := by decide +kernel
set_option maxRecDepth 100000 in
theorem vk_132_2 : tb_132_2.all (fun q => vld 132 q.1 q.2) = true := by decide +kernel
theorem vk_132 : (tb 132).all (fun q => vld 132 q.1 q.2) = true := (all_ap vk_132_0 (all_ap vk_132_1 vk_132_2) : tb_132.all (fun q => vld 132 q.1 q.2) = true)
set_option maxRecDepth 100000 in
theorem vk_133_0 : tb_133_0.all (fun q => vld 133 q.1 q.2) = true := by decide +kernel
set_option maxRecDepth 100000 in
theorem vk_133_1 : tb_133_1.all (fun q => vld 133 q.1 q.2) = true := by decide +kernel
set_option maxRecDepth 100000 in
theorem vk_133_2 : tb_133_2.all (fun q => vld 133 q.1 q.2) = true := by decide +kernel
theorem vk_133 : (tb 133).all (fun q => vld 133 q.1 q.2) = true := (all_ap vk_133_0 (all_ap vk_133_1 vk_133_2) : tb_133.all (fun q => vld 133 q.1 q.2) = true)
set_option maxRecDepth 100000 in
theorem vk_134 : (tb 134).all (fun q => vld 134 q.1 q.2) = true := by decide +kernel
set_option maxRecDepth 100000 in
theorem vk_135_0 : tb_135_0.all (fun q => vld 135 q.1 q.2) = true := by decide +kernel
set_option maxRecDepth 100000 in
theorem vk_135_1 : tb_135_1.all (fun q => vld 135 q.1 q.2) = true := by decide +kernel
theorem vk_135 : (tb 135).all (fun q => vld 135 q.1 q.2) = true := (all_ap vk_135_0 vk_135_1 : tb_135.all (fun q => vld 135 q.1 q.2) = true)
set_option maxRecDepth 100000 in
theorem vk_136_0 : tb_136_0.all (fun q => vld 136 q.1 q.2) = true := by decide +kernel
set_option maxRecDepth 100000 in
theorem vk_136_1 : tb_136_1.all (fun q => vld 136 q.1 q.2) = true := by decide +kernel
set_option maxRecDepth 100000 in
theorem vk_136_2 : tb_136_2.all (fun q => vld 136 q.1 q.2) = true := by decide +kernel
theorem vk_136 : (tb 136).all (fun q => vld 136 q.1 q.2) = true := (all_ap vk_136_0 (all_ap vk_136_1 vk_136_2) : tb_136.all (fun q => vld 136 q.1 q.2) = true)
set_option maxRecDepth 100000 in
theorem vk_137_0 : tb_137_0.all (fun q => vld 137 q.1 q.2) = true := by decide +kernel
set_option maxRecDepth 100000 in
theorem vk_137_1 : tb_137_1.all (fun q => vld 137 q.1 q.2) = true := by decide +kernel
set_option maxRecDepth 100000 in
theorem vk_137_2 : tb_137_2.all (fun q => vld 137 q.1 q.2) = true := by decide +kernel
theorem vk_137 : (tb 137).all (fun q => vld 137 q.1 q.2) = true := (all_ap vk_137_0 (all_ap vk_137_1 vk_137_2) : tb_137.all (fun q => vld 137 q.1 q.2) = true)
set_option maxRecDepth 100000 in
theorem vk_138 : (tb 138).all (fun q => vld 138 q.1 q.2) = true := by decide +kernel
set_option maxRecDepth 100000 in
theorem vk_139_0 : tb_139_0.all (fun q => vld 139 q.1 q.2) = true := by decide +kernel
set_option maxRecDepth 100000 in
theorem vk_139_1 : tb_139_1.all (fun q => vld 139 q.1 q.2) = true := by decide +kernel
set_option maxRecDepth 100000 in
theorem vk_139_2 : tb_139_2.all (fun q => vld 139 q.1 q.2) = true := by decide +kernel
set_option maxRecDepth 100000 in
theorem vk_139_3 : tb_139_3.all (fun q => vld 139 q.1 q.2) = true := by decide +kernel
theorem vk_139 : (tb 139).all (fun q => vld 139 q.1 q.2) = true := (all_ap vk_139_0 (all_ap vk_139_1 (all_ap vk_139_2 vk_139_3)) : tb_139.all (fun q => vld 139 q.1 q.2) = true)
set_option maxRecDepth 100000 in
theorem vk_140 : (tb 140).all (fun q => vld 140 q.1 q.2) = true := by decide +kernel
set_option maxRecDepth 100000 in
theorem vk_141_0 : tb_141_0.all (fun q => vld 141 q.1 q.2) = true := by decide +kernel
set_option maxRecDepth 100000 in
theorem vk_141_1 : tb_141_1.all (fun q => vld 141 q.1 q.2) = true := by decide +kernel
theorem vk_141 : (tb 141).all (fun q => vld 141 q.1 q.2) = true := (all_ap vk_141_0 vk_141_1 : tb_141.all (fun q => vld 141 q.1 q.2) = true)
set_option maxRecDepth 100000 in
theorem vk_142_0 : tb_142_0.all (fun q => vld 142 q.1 q.2) = true := by decide +kernel
set_option maxRecDepth 100000 in
theorem vk_142_1 : tb_142_1.all (fun q => vld 142 q.1 q.2) = true := by decide +kernel
set_option maxRecDepth 100000 in
theorem vk_142_2 : tb_142_2.all (fun q => vld 142 q.1 q.2) = true := by decide +kernel
set_option maxRecDepth 100000 in
theorem vk_142_3 : tb_142_3.all (fun q => vld 142 q.1 q.2) = true := by decide +kernel
set_option maxRecDepth 100000 in
theorem vk_142_4 : tb_142_4.all (fun q => vld 142 q.1 q.2) = true := by decide +kernel
theorem vk_142 : (tb 142).all (fun q => vld 142 q.1 q.2) = true := (all_ap vk_142_0 (all_ap vk_142_1 (all_ap vk_142_2 (all_ap vk_142_3 vk_142_4))) : tb_142.all (fun q => vld 142 q.1 q.2) = true)
set_option maxRecDepth 100000 in
theorem vk_143_0 : tb_143_0.all (fun q => vld 143 q.1 q.2) = true := by decide +kernel
set_option maxRecDepth 100000 in
theorem vk_143_1 : tb_143_1.all (fun q => vld 143 q.1 q.2) = true := by decide +kernel
theorem vk_143 : (tb 143).all (fun q => vld 143 q.1 q.2) = true := (all_ap vk_143_0 vk_143_1 : tb_143.all (fun q => vld 143 q.1 q.2) = true)
set_option maxRecDepth 100000 in
theorem vk_144 : (tb 144).all (fun q => vld 144 q.1 q.2) = true := by decide +kernel
set_option maxRecDepth 100000 in
theorem vk_145 : (tb 145).all (fun q => vld 145 q.1 q.2) = true := by decide +kernel
set_option maxRecDepth 100000 in
theorem vk_146 : (tb 146).all (fun q => vld 146 q.1 q.2) = true := by decide +kernel
set_option maxRecDepth 100000 in
theorem vk_147 : (tb 147).all (fun q => vld 147 q.1 q.2) = true := by decide +kernel
set_option maxRecDepth 100000 in
theorem vk_148_0 : tb_148_0.all (fun q => vld 148 q.1 q.2) = true := by decide +kernel
set_option maxRecDepth 100000 in
theorem vk_148_1 : tb_148_1.all (fun q => vld 148 q.1 q.2) = true := by decide +kernel
theorem vk_148 : (tb 148).all (fun q => vld 148 q.1 q.2) = true := (all_ap vk_148_0 vk_148_1 : tb_148.all (fun q => vld 148 q.1 q.2) = true)
set_option maxRecDepth 100000 in
theorem vk_149_0 : tb_149_0.all (fun q => vld 149 q.1 q.2) = true := by decide +kernel
set_option maxRecDepth 100000 in
theorem vk_149_1 : tb_149_1.all (fun q => vld 149 q.1 q.2) = true := by decide +kernel
theorem vk_149 : (tb 149).all (fun q => vld 149 q.1 q.2) = true := (all_ap vk_149_0 vk_149_1 : tb_149.all (fun q => vld 149 q.1 q.2) = true)
set_option maxRecDepth 100000 in
theorem vk_150_0 : tb_150_0.all (fun q => vld 150 q.1 q.2) = true := by decide +kernel
set_option maxRecDepth 100000 in
theorem vk_150_1 : tb_150_1.all (fun q => vld 150 q.1 q.2) = true := by decide +kernel
set_option maxRecDepth 100000 in
theorem vk_150_2 : tb_150_2.all (fun q => vld 150 q.1 q.2) = true := by decide +kernel
theorem vk_150 : (tb 150).all (fun q => vld 150 q.1 q.2) = true := (all_ap vk_150_0 (all_ap vk_150_1 vk_150_2) : tb_150.all (fun q => vld 150 q.1 q.2) = true)
set_option maxRecDepth 100000 in
theorem vk_151_0 : tb_151_0.all (fun q => vld 151 q.1 q.2) = true := by decide +kernel
set_option maxRecDepth 100000 in
theorem vk_151_1 : tb_151_1.all (fun q => vld 151 q.1 q.2) = true := by decide +kernel
theorem vk_151 : (tb 151).all (fun q => vld 151 q.1 q.2) = true := (all_ap vk_151_0 vk_151_1 : tb_151.all (fun q => vld 151 q.1 q.2) = true)
set_option maxRecDepth 100000 in
theorem vk_152 : (tb 152).all (fun q => vld 152 q.1 q.2) = true := by decide +kernel
set_option maxRecDepth 100000 in
theorem vk_153 : (tb 153).all (fun q => vld 153 q.1 q.2) = true := by decide +kernel
set_option maxRecDepth 100000 in
theorem vk_154 : (tb 154).all (fun q => vld 154 q.1 q.2) = true := by decide +kernel
set_option maxRecDepth 100000 in
theorem vk_155 : (tb 155).all (fun q => vld 155 q.1 q.2) = true := by decide +kernel
set_option maxRecDepth 100000 in
theorem vk_156 : (tb 156).all (fun q => vld 156 q.1 q.2) = true := by decide +kernel
set_option maxRecDepth 100000 in
theorem vk_157 : (tb 157).all (fun q => vld 157 q.1 q.2) = true := by decide +kernel
set_option maxRecDepth 100000 in
theorem vk_158 : (tb 158).all (fun q => vld 158 q.1 q.2) = true := by decide +kernel
set_option maxRecDepth 100000 in
theorem vk_159 : (tb 159).all (fun q => vld 159 q.1 q.2) = true := by decide +kernel
set_option maxRecDepth 100000 in
theorem vk_160 : (tb 160).all (fun q => vld 160 q.1 q.2) = true := by decide +kernel
set_option maxRecDepth 100000 in
theorem vk_161 : (tb 161).all (fun q => vld 161 q.1 q.2) = true := by decide +kernel
set_option maxRecDepth 100000 in
theorem vk_162 : (tb 162).all (fun q => vld 162 q.1 q.2) = true := by decide +kernel
set_option maxRecDepth 100000 in
theorem vk_163 : (tb 163).all (fun q => vld 163 q.1 q.2) = true := by decide +kernel
set_option maxRecDepth 100000 in
theorem vk_164 : (tb 164).all (fun q => vld 164 q.1 q.2) = true := by decide +kernel
set_option maxRecDepth 100000 in
theorem vk_165 : (tb 165).all (fun q => vld 165 q.1 q.2) = true := by decide +kernel
set_option maxRecDepth 100000 in
theorem vk_166_0 : tb_166_0.all (fun q => vld 166 q.1 q.2) = true := by decide +kernel
set_option maxRecDepth 100000 in
theorem vk_166_1 : tb_166_1.all (fun q => vld 166 q.1 q.2) = true := by decide +kernel
set_option maxRecDepth 100000 in
theorem vk_166_2 : tb_166_2.all (fun q => vld 166 q.1 q.2) = true := by decide +kernel
set_option maxRecDepth 100000 in
theorem vk_166_3 : tb_166_3.all (fun q => vld 166 q.1 q.2) = true := by decide +kernel
set_option maxRecDepth 100000 in
theorem vk_166_4 : tb_166_4.all (fun q => vld 166 q.1 q.2) = true := by decide +kernel
set_option maxRecDepth 100000 in
theorem vk_166_5 : tb_166_5.all (fun q => vld 166 q.1 q.2) = true := by decide +kernel
set_option maxRecDepth 100000 in
theorem vk_166_6 : tb_166_6.all (fun q => vld 166 q.1 q.2) = true := by decide +kernel
set_option maxRecDepth 100000 in
theorem vk_166_7 : tb_166_7.all (fun q => vld 166 q.1 q.2) = true := by decide +kernel
set_option maxRecDepth 100000 in
theorem vk_166_8 : tb_166_8.all (fun q => vld 166 q.1 q.2) = true := by decide +kernel
set_option maxRecDepth 100000 in
theorem vk_166_9 : tb_166_9.all (fun q => vld 166 q.1 q.2) = true := by decide +kernel
set_option maxRecDepth 100000 in
theorem vk_166_10 : tb_166_10.all (fun q => vld 166 q.1 q.2) = true := by decide +kernel
set_option maxRecDepth 100000 in
theorem vk_166_11 : tb_166_11.all (fun q => vld 166 q.1 q.2) = true := by decide +kernel
set_option maxRecDepth 100000 in
theorem vk_166_12 : tb_166_12.all (fun q => vld 166 q.1 q.2) = true := by decide +kernel
set_option maxRecDepth 100000 in
theorem vk_166_13 : tb_166_13.all (fun q => vld 166 q.1 q.2) = true := by decide +kernel
theorem vk_166 : (tb 166).all (fun q => vld 166 q.1 q.2) = true := (all_ap vk_166_0 (all_ap vk_166_1 (all_ap vk_166_2 (all_ap vk_166_3 (all_ap vk_166_4 (all_ap vk_166_5 (all_ap vk_166_6 (all_ap vk_166_7 (all_ap vk_166_8 (all_ap vk_166_9 (all_ap vk_166_10 (all_ap vk_166_11 (all_ap vk_166_12 vk_166_13)))))))))))) : tb_166.all (fun q => vld 166 q.1 q.2) = true)
def vka_p (z : Nat) : Prop := (tb z).all (fun q => vld z q.1 q.2) = true
theorem vka_u24 : ∀ a, a < 24 → vka_p a := lt_s (p := vka_p) (lt_s (p := vka_p) (lt_s (p := vka_p) (lt_s (p := vka_p) (lt_s (p := vka_p) (lt_s (p := vka_p) (lt_s (p := vka_p) (lt_s (p := vka_p) (lt_s (p := vka_p) (lt_s (p := vka_p) (lt_s (p := vka_p) (lt_s (p := vka_p) (lt_s (p := vka_p) (lt_s (p := vka_p) (lt_s (p := vka_p) (lt_s (p := vka_p) (lt_s (p := vka_p) (lt_s (p := vka_p) (lt_s (p := vka_p) (lt_s (p := vka_p) (lt_s (p := vka_p) (lt_s (p := vka_p) (lt_s (p := vka_p) (lt_s (p := vka_p) ((lt_0 : ∀ a, a < 0 → vka_p a)) vk_0) vk_1) vk_2) vk_3) vk_4) vk_5) vk_6) vk_7) vk_8) vk_9) vk_10) vk_11) vk_12) vk_13) vk_14) vk_15) vk_16) vk_17) vk_18) vk_19) vk_20) vk_21) vk_22) vk_23
theorem vka_u48 : ∀ a, a < 48 → vka_p a := lt_s (p := vka_p) (lt_s (p := vka_p) (lt_s (p := vka_p) (lt_s (p := vka_p) (lt_s (p := vka_p) (lt_s (p := vka_p) (lt_s (p := vka_p) (lt_s (p := vka_p) (lt_s (p := vka_p) (lt_s (p := vka_p) (lt_s (p := vka_p) (lt_s (p := vka_p) (lt_s (p := vka_p) (lt_s (p := vka_p) (lt_s (p := vka_p) (lt_s (p := vka_p) (lt_s (p := vka_p) (lt_s (p := vka_p) (lt_s (p := vka_p) (lt_s (p := vka_p) (lt_s (p := vka_p) (lt_s (p := vka_p) (lt_s (p := vka_p) (lt_s (p := vka_p) (vka_u24) vk_24) vk_25) vk_26) vk_27) vk_28) vk_29) vk_30) vk_31) vk_32) vk_33) vk_34) vk_35) vk_36) vk_37) vk_38) vk_39) vk_40) vk_41) vk_42) vk_43) vk_44) vk_45) vk_46) vk_47
theorem vka_u72 : ∀ a, a < 72 → vka_p a := lt_s (p := vka_p) (lt_s (p := vka_p) (lt_s (p := vka_p) (lt_s (p := vka_p) (lt_s (p := vka_p) (lt_s (p := vka_p) (lt_s (p := vka_p) (lt_s (p := vka_p) (lt_s (p := vka_p) (lt_s (p := vka_p) (lt_s (p := vka_p) (lt_s (p := vka_p) (lt_s (p := vka_p) (lt_s (p := vka_p) (lt_s (p := vka_p) (lt_s (p := vka_p) (lt_s (p := vka_p) (lt_s (p := vka_p) (lt_s (p := vka_p) (lt_s (p := vka_p) (lt_s (p := vka_p) (lt_s (p := vka_p) (lt_s (p := vka_p) (lt_s (p := vka_p) (vka_u48) vk_48) vk_49) vk_50) vk_51) vk_52) vk_53) vk_54) vk_55) vk_56) vk_57) vk_58) vk_59) vk_60) vk_61) vk_62) vk_63) vk_64) vk_65) vk_66) vk_67) vk_68) vk_69) vk_70) vk_71
theorem vka_u96 : ∀ a, a < 96 → vka_p a := lt_s (p := vka_p) (lt_s (p := vka_p) (lt_s (p := vka_p) (lt_s (p := vka_p) (lt_s (p := vka_p) (lt_s (p := vka_p) (lt_s (p := vka_p) (lt_s (p := vka_p) (lt_s (p := vka_p) (lt_s (p := vka_p) (lt_s (p := vka_p) (lt_s (p := vka_p) (lt_s (p := vka_p) (lt_s (p := vka_p) (lt_s (p := vka_p) (lt_s (p := vka_p) (lt_s (p := vka_p) (lt_s (p := vka_p) (lt_s (p := vka_p) (lt_s (p := vka_p) (lt_s (p := vka_p) (lt_s (p := vka_p) (lt_s (p := vka_p) (lt_s (p := vka_p) (vka_u72) vk_72) vk_73) vk_74) vk_75) vk_76) vk_77) vk_78) vk_79) vk_80) vk_81) vk_82) vk_83) vk_84) vk_85) vk_86) vk_87) vk_88) vk_89) vk_90) vk_91) vk_92) vk_93) vk_94) vk_95
theorem vka_u120 : ∀ a, a < 120 → vka_p a := lt_s (p := vka_p) (lt_s (p := vka_p) (lt_s (p := vka_p) (lt_s (p := vka_p) (lt_s (p := vka_p) (lt_s (p := vka_p) (lt_s (p := vka_p) (lt_s (p := vka_p) (lt_s (p := vka_p) (lt_s (p := vka_p) (lt_s (p := vka_p) (lt_s (p := vka_p) (lt_s (p := vka_p) (lt_s (p := vka_p) (lt_s (p := vka_p) (lt_s (p := vka_p) (lt_s (p := vka_p) (lt_s (p := vka_p) (lt_s (p := vka_p) (lt_s (p := vka_p) (lt_s (p := vka_p) (lt_s (p := vka_p) (lt_s (p := vka_p) (lt_s (p := vka_p) (vka_u96) vk_96) vk_97) vk_98) vk_99) vk_100) vk_101) vk_102) vk_103) vk_104) vk_105) vk_106) vk_107) vk_108) vk_109) vk_110) vk_111) vk_112) vk_113) vk_114) vk_115) vk_116) vk_117) vk_118) vk_119
theorem vka_u144 : ∀ a, a < 144 → vka_p a := lt_s (p := vka_p) (lt_s (p := vka_p) (lt_s (p := vka_p) (lt_s (p := vka_p) (lt_s (p := vka_p) (lt_s (p := vka_p) (lt_s (p := vka_p) (lt_s (p := vka_p) (lt_s (p := vka_p) (lt_s (p := vka_p) (lt_s (p := vka_p) (lt_s (p := vka_p) (lt_s (p := vka_p) (lt_s (p := vka_p) (lt_s (p := vka_p) (lt_s (p := vka_p) (lt_s (p := vka_p) (lt_s (p := vka_p) (lt_s (p := vka_p) (lt_s (p := vka_p) (lt_s (p := vka_p) (lt_s (p := vka_p) (lt_s (p := vka_p) (lt_s (p := vka_p) (vka_u120) vk_120) vk_121) vk_122) vk_123) vk_124) vk_125) vk_126) vk_127) vk_128) vk_129) vk_130) vk_131) vk_132) vk_133) vk_134) vk_135) vk_136) vk_137) vk_138) vk_139) vk_140) vk_141) vk_142) vk_143
theorem vka_u167 : ∀ a, a < 167 → vka_p a := lt_s (p := vka_p) (lt_s (p := vka_p) (lt_s (p := vka_p) (lt_s (p := vka_p) (lt_s (p := vka_p) (lt_s (p := vka_p) (lt_s (p := vka_p) (lt_s (p := vka_p) (lt_s (p := vka_p) (lt_s (p := vka_p) (lt_s (p := vka_p) (lt_s (p := vka_p) (lt_s (p := vka_p) (lt_s (p := vka_p) (lt_s (p := vka_p) (lt_s (p := vka_p) (lt_s (p := vka_p) (lt_s (p := vka_p) (lt_s (p := vka_p) (lt_s (p := vka_p) (lt_s (p := vka_p) (lt_s (p := vka_p) (lt_s (p := vka_p) (vka_u144) vk_144) vk_145) vk_146) vk_147) vk_148) vk_149) vk_150) vk_151) vk_152) vk_153) vk_154) vk_155) vk_156) vk_157) vk_158) vk_159) vk_160) vk_161) vk_162) vk_163) vk_164) vk_165) vk_166
