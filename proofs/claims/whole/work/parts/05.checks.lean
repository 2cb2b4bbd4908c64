def pm_callok (mi g sk : Nat) : Bool := Nat.blt (pm_f (g / 32768)) (pm_f mi) && Nat.ble (8 + (pm_L (g / 32768) + 11) + pm_lo (g / 32768)) (pm_lo mi) && Nat.blt (g / 32768) 180 && Nat.beq (pm_sk (g / 32768)) sk && Nat.beq (pm_na (g / 32768)) (g / 2048 % 16)
def pm_key (mi g : Nat) : Nat := pm_o mi * 2 ^ 40 + g
def pm_lk (mi : Nat) (i : Instr) : Bool := match i with
  | .getfield g => Nat.blt g (2 ^ 40) && pm_fl.contains (pm_key mi g)
  | .putfield g => Nat.blt g (2 ^ 40) && pm_fl.contains (pm_key mi g) && (!(pm_Tf (g / 262144 % 16) (g / 2048 % 128)).2.2.2 || (Nat.beq (g / 262144 % 16) (pm_o mi) && Nat.beq (pm_sk mi) 2))
  | .new g => Nat.blt g (2 ^ 40) && pm_nl.contains (pm_key mi g)
  | .anewarray g => Nat.blt g (2 ^ 40) && pm_al.contains (pm_key mi g)
  | .invokevirtual g => Nat.blt g (2 ^ 40) && pm_vl.contains (pm_key mi g) && pm_callok mi g 1
  | .invokestatic g => Nat.blt g (2 ^ 40) && pm_sl.contains (pm_key mi g) && pm_callok mi g 0
  | .invokespecial g => Nat.blt g (2 ^ 40) && pm_il.contains (pm_key mi g) && pm_callok mi g 2
  | .ldc g => Nat.blt g (2 ^ 40) && ((Nat.ble 204800 g && Nat.beq (pm_o mi) 6 && Nat.blt (g / 2048 - 100) 3 && Nat.beq (g % 2048) (pm_si (g / 2048 - 100))) || (Nat.blt g 204800 && pm_cl.contains (pm_key mi g)))
  | .putstatic g => Nat.beq g 310 && Nat.beq (pm_o mi) 14 && Nat.ble 1 (pm_f mi) && Nat.ble 40 (pm_lo mi)
  | .checkcast g => Nat.beq g 311 && Nat.beq (pm_o mi) 14
  | .instanceof g => Nat.beq g 45 && Nat.beq (pm_o mi) 10 && Nat.ble 4 (pm_f mi) && Nat.ble 60 (pm_lo mi)
  | .invokeinterface g _ => Nat.beq g 51 && Nat.beq (pm_o mi) 10 && Nat.ble 6 (pm_f mi) && Nat.ble 120 (pm_lo mi)
  | .ldc_w g => Nat.blt g (2 ^ 40) && pm_cl.contains (pm_key mi g)
  | .ldc2_w g => Nat.blt g (2 ^ 40) && pm_jl.contains (pm_key mi g)
  | .bipush n => decide (-128 ≤ n) && decide (n < 128)
  | .sipush n => decide (-32768 ≤ n) && decide (n < 32768)
  | .ifCond _ t | .if_icmp _ t | .goto t | .ifnull t | .ifnonnull t => decide (0 ≤ t)
  | .tableswitch d lo hi offs => decide (0 ≤ d) && decide (lo ≤ hi) && decide (offs.size = (hi - lo + 1).toNat) && offs.toList.all (fun z => decide (0 ≤ z))
  | .lookupswitch d ps => decide (0 ≤ d) && ps.toList.all (fun q => decide (0 ≤ q.2)) && (ps.toList.zip (ps.toList.drop 1)).all (fun (a, next) => a.1 < next.1)
  | .newarray t => match t with | .int => true | .byte => true | .boolean => true | _ => false
  | .getstatic g => Nat.blt g 2048 && pm_ol.contains (pm_key mi g) && Nat.ble 1 (pm_f mi) && Nat.ble 20 (pm_lo mi)
  | .invokedynamic g => Nat.blt g 2048 && pm_xl.contains (pm_key mi g) && Nat.ble 1 (pm_f mi) && Nat.ble 40 (pm_lo mi)
  | .fload g => Nat.blt g 2048 && pm_Ml.contains (pm_key mi g) && Nat.ble 1 (pm_f mi) && Nat.ble 21 (pm_lo mi)
  | .dload g => Nat.blt g 2048 && pm_Nl.contains (pm_key mi g) && Nat.ble 1 (pm_f mi) && Nat.ble 21 (pm_lo mi)
  | .fstore g => Nat.blt g 2048 && pm_Al.contains (pm_key mi g) && Nat.ble 1 (pm_f mi) && Nat.ble 21 (pm_lo mi)
  | .ireturn => match pm_r mi with | some .int => true | _ => false
  | .freturn => match pm_r mi with | some .boolean => true | _ => false
  | .lreturn => match pm_r mi with | some .long => true | _ => false
  | .return_ => match pm_r mi with | none => true | _ => false
  | .areturn => match pm_r mi with | some (.object _) => true | some (.array _) => true | _ => false
  | _ => true
noncomputable def pm_chk (mi pc : Nat) : Bool := match pm_ft mi pc with
  | some (ins, len) => decide (decode (pm_b mi) pc = .ok (pm_ur pc ins, len)) && (Nat.beq (pm_ln ins) 0 || Nat.beq (pm_ln ins) len) && pm_lk mi ins
  | none => true
theorem pm_chk_0 : ((List.range 22).all fun pc => pm_chk 0 pc) = true := by decide +kernel
theorem pm_chk_1 : ((List.range 168).all fun pc => pm_chk 1 pc) = true := by decide +kernel
theorem pm_chk_2 : ((List.range 66).all fun pc => pm_chk 2 pc) = true := by decide +kernel
theorem pm_chk_3 : ((List.range 64).all fun pc => pm_chk 3 pc) = true := by decide +kernel
theorem pm_chk_4 : ((List.range 32).all fun pc => pm_chk 4 pc) = true := by decide +kernel
theorem pm_chk_5 : ((List.range 14).all fun pc => pm_chk 5 pc) = true := by decide +kernel
theorem pm_chk_6 : ((List.range 61).all fun pc => pm_chk 6 pc) = true := by decide +kernel
theorem pm_chk_7 : ((List.range 39).all fun pc => pm_chk 7 pc) = true := by decide +kernel
theorem pm_chk_8 : ((List.range 163).all fun pc => pm_chk 8 pc) = true := by decide +kernel
theorem pm_chk_9 : ((List.range 86).all fun pc => pm_chk 9 pc) = true := by decide +kernel
theorem pm_chk_10 : ((List.range 112).all fun pc => pm_chk 10 pc) = true := by decide +kernel
theorem pm_chk_11 : ((List.range 57).all fun pc => pm_chk 11 pc) = true := by decide +kernel
theorem pm_chk_12 : ((List.range 33).all fun pc => pm_chk 12 pc) = true := by decide +kernel
theorem pm_chk_13 : ((List.range 33).all fun pc => pm_chk 13 pc) = true := by decide +kernel
theorem pm_chk_14 : ((List.range 33).all fun pc => pm_chk 14 pc) = true := by decide +kernel
theorem pm_chk_15 : ((List.range 23).all fun pc => pm_chk 15 pc) = true := by decide +kernel
theorem pm_chk_16 : ((List.range 23).all fun pc => pm_chk 16 pc) = true := by decide +kernel
theorem pm_chk_17 : ((List.range 33).all fun pc => pm_chk 17 pc) = true := by decide +kernel
theorem pm_chk_18 : ((List.range 33).all fun pc => pm_chk 18 pc) = true := by decide +kernel
theorem pm_chk_19 : ((List.range 24).all fun pc => pm_chk 19 pc) = true := by decide +kernel
theorem pm_chk_20 : ((List.range 33).all fun pc => pm_chk 20 pc) = true := by decide +kernel
theorem pm_chk_21 : ((List.range 23).all fun pc => pm_chk 21 pc) = true := by decide +kernel
theorem pm_chk_22 : ((List.range 34).all fun pc => pm_chk 22 pc) = true := by decide +kernel
theorem pm_chk_23 : ((List.range 61).all fun pc => pm_chk 23 pc) = true := by decide +kernel
theorem pm_chk_24 : ((List.range 48).all fun pc => pm_chk 24 pc) = true := by decide +kernel
theorem pm_chk_25 : ((List.range 123).all fun pc => pm_chk 25 pc) = true := by decide +kernel
theorem pm_chk_26 : ((List.range 120).all fun pc => pm_chk 26 pc) = true := by decide +kernel
theorem pm_chk_27 : ((List.range 100).all fun pc => pm_chk 27 pc) = true := by decide +kernel
theorem pm_chk_28 : ((List.range 26).all fun pc => pm_chk 28 pc) = true := by decide +kernel
theorem pm_chk_29 : ((List.range 14).all fun pc => pm_chk 29 pc) = true := by decide +kernel
theorem pm_chk_30 : ((List.range 59).all fun pc => pm_chk 30 pc) = true := by decide +kernel
theorem pm_chk_31 : ((List.range 37).all fun pc => pm_chk 31 pc) = true := by decide +kernel
theorem pm_chk_32 : ((List.range 145).all fun pc => pm_chk 32 pc) = true := by decide +kernel
theorem pm_chk_33 : ((List.range 93).all fun pc => pm_chk 33 pc) = true := by decide +kernel
theorem pm_chk_34 : ((List.range 189).all fun pc => pm_chk 34 pc) = true := by decide +kernel
theorem pm_chk_35 : ((List.range 63).all fun pc => pm_chk 35 pc) = true := by decide +kernel
theorem pm_chk_36 : ((List.range 74).all fun pc => pm_chk 36 pc) = true := by decide +kernel
theorem pm_chk_37 : ((List.range 83).all fun pc => pm_chk 37 pc) = true := by decide +kernel
theorem pm_chk_38 : ((List.range 110).all fun pc => pm_chk 38 pc) = true := by decide +kernel
theorem pm_chk_39 : ((List.range 126).all fun pc => pm_chk 39 pc) = true := by decide +kernel
theorem pm_chk_40 : ((List.range 30).all fun pc => pm_chk 40 pc) = true := by decide +kernel
theorem pm_chk_41 : ((List.range 31).all fun pc => pm_chk 41 pc) = true := by decide +kernel
theorem pm_chk_42 : ((List.range 55).all fun pc => pm_chk 42 pc) = true := by decide +kernel
theorem pm_chk_43 : ((List.range 28).all fun pc => pm_chk 43 pc) = true := by decide +kernel
theorem pm_chk_44 : ((List.range 13).all fun pc => pm_chk 44 pc) = true := by decide +kernel
theorem pm_chk_45 : ((List.range 12).all fun pc => pm_chk 45 pc) = true := by decide +kernel
theorem pm_chk_46 : ((List.range 50).all fun pc => pm_chk 46 pc) = true := by decide +kernel
theorem pm_chk_47 : ((List.range 72).all fun pc => pm_chk 47 pc) = true := by decide +kernel
theorem pm_chk_48 : ((List.range 113).all fun pc => pm_chk 48 pc) = true := by decide +kernel
theorem pm_chk_49 : ((List.range 15).all fun pc => pm_chk 49 pc) = true := by decide +kernel
theorem pm_chk_50 : ((List.range 222).all fun pc => pm_chk 50 pc) = true := by decide +kernel
theorem pm_chk_51 : ((List.range 30).all fun pc => pm_chk 51 pc) = true := by decide +kernel
theorem pm_chk_52 : ((List.range 12).all fun pc => pm_chk 52 pc) = true := by decide +kernel
theorem pm_chk_53 : ((List.range 47).all fun pc => pm_chk 53 pc) = true := by decide +kernel
theorem pm_chk_54 : ((List.range 30).all fun pc => pm_chk 54 pc) = true := by decide +kernel
theorem pm_chk_55 : ((List.range 48).all fun pc => pm_chk 55 pc) = true := by decide +kernel
theorem pm_chk_56 : ((List.range 29).all fun pc => pm_chk 56 pc) = true := by decide +kernel
theorem pm_chk_57 : ((List.range 25).all fun pc => pm_chk 57 pc) = true := by decide +kernel
theorem pm_chk_58 : ((List.range 14).all fun pc => pm_chk 58 pc) = true := by decide +kernel
theorem pm_chk_59 : ((List.range 29).all fun pc => pm_chk 59 pc) = true := by decide +kernel
theorem pm_chk_60 : ((List.range 34).all fun pc => pm_chk 60 pc) = true := by decide +kernel
theorem pm_chk_61 : ((List.range 39).all fun pc => pm_chk 61 pc) = true := by decide +kernel
theorem pm_chk_62 : ((List.range 49).all fun pc => pm_chk 62 pc) = true := by decide +kernel
theorem pm_chk_63 : ((List.range 49).all fun pc => pm_chk 63 pc) = true := by decide +kernel
theorem pm_chk_64 : ((List.range 18).all fun pc => pm_chk 64 pc) = true := by decide +kernel
theorem pm_chk_65 : ((List.range 6).all fun pc => pm_chk 65 pc) = true := by decide +kernel
theorem pm_chk_66 : ((List.range 187).all fun pc => pm_chk 66 pc) = true := by decide +kernel
theorem pm_chk_67 : ((List.range 110).all fun pc => pm_chk 67 pc) = true := by decide +kernel
theorem pm_chk_68 : ((List.range 65).all fun pc => pm_chk 68 pc) = true := by decide +kernel
theorem pm_chk_69 : ((List.range 46).all fun pc => pm_chk 69 pc) = true := by decide +kernel
theorem pm_chk_70 : ((List.range 25).all fun pc => pm_chk 70 pc) = true := by decide +kernel
theorem pm_chk_71 : ((List.range 27).all fun pc => pm_chk 71 pc) = true := by decide +kernel
theorem pm_chk_72 : ((List.range 27).all fun pc => pm_chk 72 pc) = true := by decide +kernel
theorem pm_chk_73 : ((List.range 27).all fun pc => pm_chk 73 pc) = true := by decide +kernel
theorem pm_chk_74 : ((List.range 27).all fun pc => pm_chk 74 pc) = true := by decide +kernel
theorem pm_chk_75 : ((List.range 27).all fun pc => pm_chk 75 pc) = true := by decide +kernel
theorem pm_chk_76 : ((List.range 22).all fun pc => pm_chk 76 pc) = true := by decide +kernel
theorem pm_chk_77 : ((List.range 40).all fun pc => pm_chk 77 pc) = true := by decide +kernel
theorem pm_chk_78 : ((List.range 11).all fun pc => pm_chk 78 pc) = true := by decide +kernel
theorem pm_chk_79 : ((List.range 58).all fun pc => pm_chk 79 pc) = true := by decide +kernel
theorem pm_chk_80 : ((List.range 49).all fun pc => pm_chk 80 pc) = true := by decide +kernel
theorem pm_chk_81 : ((List.range 69).all fun pc => pm_chk 81 pc) = true := by decide +kernel
theorem pm_chk_82 : ((List.range 52).all fun pc => pm_chk 82 pc) = true := by decide +kernel
theorem pm_chk_83 : ((List.range 69).all fun pc => pm_chk 83 pc) = true := by decide +kernel
theorem pm_chk_84 : ((List.range 121).all fun pc => pm_chk 84 pc) = true := by decide +kernel
theorem pm_chk_85 : ((List.range 5).all fun pc => pm_chk 85 pc) = true := by decide +kernel
theorem pm_chk_86 : ((List.range 18).all fun pc => pm_chk 86 pc) = true := by decide +kernel
theorem pm_chk_87 : ((List.range 57).all fun pc => pm_chk 87 pc) = true := by decide +kernel
theorem pm_chk_88 : ((List.range 46).all fun pc => pm_chk 88 pc) = true := by decide +kernel
theorem pm_chk_89 : ((List.range 83).all fun pc => pm_chk 89 pc) = true := by decide +kernel
theorem pm_chk_90 : ((List.range 49).all fun pc => pm_chk 90 pc) = true := by decide +kernel
theorem pm_chk_91 : ((List.range 96).all fun pc => pm_chk 91 pc) = true := by decide +kernel
theorem pm_chk_92 : ((List.range 61).all fun pc => pm_chk 92 pc) = true := by decide +kernel
theorem pm_chk_93 : ((List.range 68).all fun pc => pm_chk 93 pc) = true := by decide +kernel
theorem pm_chk_94 : ((List.range 136).all fun pc => pm_chk 94 pc) = true := by decide +kernel
theorem pm_chk_95 : ((List.range 65).all fun pc => pm_chk 95 pc) = true := by decide +kernel
theorem pm_chk_96 : ((List.range 64).all fun pc => pm_chk 96 pc) = true := by decide +kernel
theorem pm_chk_97 : ((List.range 21).all fun pc => pm_chk 97 pc) = true := by decide +kernel
theorem pm_chk_98 : ((List.range 43).all fun pc => pm_chk 98 pc) = true := by decide +kernel
theorem pm_chk_99 : ((List.range 43).all fun pc => pm_chk 99 pc) = true := by decide +kernel
theorem pm_chk_100 : ((List.range 52).all fun pc => pm_chk 100 pc) = true := by decide +kernel
theorem pm_chk_101 : ((List.range 49).all fun pc => pm_chk 101 pc) = true := by decide +kernel
theorem pm_chk_102 : ((List.range 107).all fun pc => pm_chk 102 pc) = true := by decide +kernel
theorem pm_chk_103 : ((List.range 46).all fun pc => pm_chk 103 pc) = true := by decide +kernel
theorem pm_chk_104 : ((List.range 86).all fun pc => pm_chk 104 pc) = true := by decide +kernel
theorem pm_chk_105 : ((List.range 60).all fun pc => pm_chk 105 pc) = true := by decide +kernel
theorem pm_chk_106 : ((List.range 7).all fun pc => pm_chk 106 pc) = true := by decide +kernel
theorem pm_chk_107 : ((List.range 7).all fun pc => pm_chk 107 pc) = true := by decide +kernel
theorem pm_chk_108 : ((List.range 7).all fun pc => pm_chk 108 pc) = true := by decide +kernel
theorem pm_chk_109 : ((List.range 7).all fun pc => pm_chk 109 pc) = true := by decide +kernel
theorem pm_chk_110 : ((List.range 16).all fun pc => pm_chk 110 pc) = true := by decide +kernel
theorem pm_chk_111 : ((List.range 16).all fun pc => pm_chk 111 pc) = true := by decide +kernel
theorem pm_chk_112 : ((List.range 16).all fun pc => pm_chk 112 pc) = true := by decide +kernel
theorem pm_chk_113 : ((List.range 16).all fun pc => pm_chk 113 pc) = true := by decide +kernel
theorem pm_chk_114 : ((List.range 17).all fun pc => pm_chk 114 pc) = true := by decide +kernel
theorem pm_chk_115 : ((List.range 78).all fun pc => pm_chk 115 pc) = true := by decide +kernel
theorem pm_chk_116 : ((List.range 82).all fun pc => pm_chk 116 pc) = true := by decide +kernel
theorem pm_chk_117 : ((List.range 27).all fun pc => pm_chk 117 pc) = true := by decide +kernel
theorem pm_chk_118 : ((List.range 64).all fun pc => pm_chk 118 pc) = true := by decide +kernel
theorem pm_chk_119 : ((List.range 94).all fun pc => pm_chk 119 pc) = true := by decide +kernel
theorem pm_chk_120 : ((List.range 117).all fun pc => pm_chk 120 pc) = true := by decide +kernel
theorem pm_chk_121 : ((List.range 355).all fun pc => pm_chk 121 pc) = true := by decide +kernel
theorem pm_chk_122 : ((List.range 10).all fun pc => pm_chk 122 pc) = true := by decide +kernel
theorem pm_chk_123 : ((List.range 7).all fun pc => pm_chk 123 pc) = true := by decide +kernel
theorem pm_chk_124 : ((List.range 7).all fun pc => pm_chk 124 pc) = true := by decide +kernel
theorem pm_chk_125 : ((List.range 23).all fun pc => pm_chk 125 pc) = true := by decide +kernel
theorem pm_chk_126 : ((List.range 18).all fun pc => pm_chk 126 pc) = true := by decide +kernel
theorem pm_chk_127 : ((List.range 18).all fun pc => pm_chk 127 pc) = true := by decide +kernel
theorem pm_chk_128 : ((List.range 359).all fun pc => pm_chk 128 pc) = true := by decide +kernel
theorem pm_chk_129 : ((List.range 78).all fun pc => pm_chk 129 pc) = true := by decide +kernel
theorem pm_chk_130 : ((List.range 23).all fun pc => pm_chk 130 pc) = true := by decide +kernel
theorem pm_chk_131 : ((List.range 18).all fun pc => pm_chk 131 pc) = true := by decide +kernel
theorem pm_chk_132 : ((List.range 18).all fun pc => pm_chk 132 pc) = true := by decide +kernel
theorem pm_chk_133 : ((List.range 17).all fun pc => pm_chk 133 pc) = true := by decide +kernel
theorem pm_chk_134 : ((List.range 22).all fun pc => pm_chk 134 pc) = true := by decide +kernel
theorem pm_chk_135 : ((List.range 22).all fun pc => pm_chk 135 pc) = true := by decide +kernel
theorem pm_chk_136 : ((List.range 19).all fun pc => pm_chk 136 pc) = true := by decide +kernel
theorem pm_chk_137 : ((List.range 22).all fun pc => pm_chk 137 pc) = true := by decide +kernel
theorem pm_chk_138 : ((List.range 20).all fun pc => pm_chk 138 pc) = true := by decide +kernel
theorem pm_chk_139 : ((List.range 62).all fun pc => pm_chk 139 pc) = true := by decide +kernel
theorem pm_chk_140 : ((List.range 475).all fun pc => pm_chk 140 pc) = true := by decide +kernel
theorem pm_chk_141 : ((List.range 172).all fun pc => pm_chk 141 pc) = true := by decide +kernel
theorem pm_chk_142 : ((List.range 386).all fun pc => pm_chk 142 pc) = true := by decide +kernel
theorem pm_chk_143 : ((List.range 52).all fun pc => pm_chk 143 pc) = true := by decide +kernel
theorem pm_chk_144 : ((List.range 39).all fun pc => pm_chk 144 pc) = true := by decide +kernel
theorem pm_chk_145 : ((List.range 393).all fun pc => pm_chk 145 pc) = true := by decide +kernel
theorem pm_chk_146 : ((List.range 30).all fun pc => pm_chk 146 pc) = true := by decide +kernel
theorem pm_chk_147 : ((List.range 18).all fun pc => pm_chk 147 pc) = true := by decide +kernel
theorem pm_chk_148 : ((List.range 118).all fun pc => pm_chk 148 pc) = true := by decide +kernel
theorem pm_chk_149 : ((List.range 81).all fun pc => pm_chk 149 pc) = true := by decide +kernel
theorem pm_chk_150 : ((List.range 59).all fun pc => pm_chk 150 pc) = true := by decide +kernel
theorem pm_chk_151 : ((List.range 79).all fun pc => pm_chk 151 pc) = true := by decide +kernel
theorem pm_chk_152 : ((List.range 18).all fun pc => pm_chk 152 pc) = true := by decide +kernel
theorem pm_chk_153 : ((List.range 56).all fun pc => pm_chk 153 pc) = true := by decide +kernel
theorem pm_chk_154 : ((List.range 24).all fun pc => pm_chk 154 pc) = true := by decide +kernel
theorem pm_chk_155 : ((List.range 136).all fun pc => pm_chk 155 pc) = true := by decide +kernel
theorem pm_chk_156 : ((List.range 52).all fun pc => pm_chk 156 pc) = true := by decide +kernel
theorem pm_chk_157 : ((List.range 19).all fun pc => pm_chk 157 pc) = true := by decide +kernel
theorem pm_chk_158 : ((List.range 242).all fun pc => pm_chk 158 pc) = true := by decide +kernel
theorem pm_chk_159 : ((List.range 69).all fun pc => pm_chk 159 pc) = true := by decide +kernel
theorem pm_chk_160 : ((List.range 101).all fun pc => pm_chk 160 pc) = true := by decide +kernel
theorem pm_chk_161 : ((List.range 72).all fun pc => pm_chk 161 pc) = true := by decide +kernel
theorem pm_chk_162 : ((List.range 343).all fun pc => pm_chk 162 pc) = true := by decide +kernel
theorem pm_chk_163 : ((List.range 441).all fun pc => pm_chk 163 pc) = true := by decide +kernel
theorem pm_chk_164 : ((List.range 28).all fun pc => pm_chk 164 pc) = true := by decide +kernel
theorem pm_chk_165 : ((List.range 50).all fun pc => pm_chk 165 pc) = true := by decide +kernel
theorem pm_chk_166 : ((List.range 16).all fun pc => pm_chk 166 pc) = true := by decide +kernel
theorem pm_chk_167 : ((List.range 68).all fun pc => pm_chk 167 pc) = true := by decide +kernel
theorem pm_chk_168 : ((List.range 46).all fun pc => pm_chk 168 pc) = true := by decide +kernel
theorem pm_chk_169 : ((List.range 17).all fun pc => pm_chk 169 pc) = true := by decide +kernel
theorem pm_chk_170 : ((List.range 82).all fun pc => pm_chk 170 pc) = true := by decide +kernel
theorem pm_chk_171 : ((List.range 50).all fun pc => pm_chk 171 pc) = true := by decide +kernel
theorem pm_chk_172 : ((List.range 292).all fun pc => pm_chk 172 pc) = true := by decide +kernel
theorem pm_chk_173 : ((List.range 199).all fun pc => pm_chk 173 pc) = true := by decide +kernel
theorem pm_chk_174 : ((List.range 306).all fun pc => pm_chk 174 pc) = true := by decide +kernel
theorem pm_chk_175 : ((List.range 17).all fun pc => pm_chk 175 pc) = true := by decide +kernel
theorem pm_chk_176 : ((List.range 144).all fun pc => pm_chk 176 pc) = true := by decide +kernel
theorem pm_chk_177 : ((List.range 165).all fun pc => pm_chk 177 pc) = true := by decide +kernel
theorem pm_chk_178 : ((List.range 21).all fun pc => pm_chk 178 pc) = true := by decide +kernel
theorem pm_chk_179 : ((List.range 33).all fun pc => pm_chk 179 pc) = true := by decide +kernel
theorem pm_chk_all (mi pc : Nat) (hm : mi < 180) (hp : pc < pm_sz mi) : pm_chk mi pc = true := by
  have key : ∀ mi, mi < 180 → ((List.range (pm_sz mi)).all fun pc => pm_chk mi pc) = true := by
    intro mi hm
    by_cases q0_180 : mi < 90
    · skip
      by_cases q0_90 : mi < 45
      · skip
        by_cases q0_45 : mi < 22
        · skip
          by_cases q0_22 : mi < 11
          · skip
            by_cases q0_11 : mi < 5
            · skip
              by_cases q0_5 : mi < 2
              · skip
                by_cases q0_2 : mi < 1
                · skip
                  obtain rfl : mi = 0 := by omega
                  exact pm_chk_0
                · skip
                  obtain rfl : mi = 1 := by omega
                  exact pm_chk_1
              · skip
                by_cases q2_5 : mi < 3
                · skip
                  obtain rfl : mi = 2 := by omega
                  exact pm_chk_2
                · skip
                  by_cases q3_5 : mi < 4
                  · skip
                    obtain rfl : mi = 3 := by omega
                    exact pm_chk_3
                  · skip
                    obtain rfl : mi = 4 := by omega
                    exact pm_chk_4
            · skip
              by_cases q5_11 : mi < 8
              · skip
                by_cases q5_8 : mi < 6
                · skip
                  obtain rfl : mi = 5 := by omega
                  exact pm_chk_5
                · skip
                  by_cases q6_8 : mi < 7
                  · skip
                    obtain rfl : mi = 6 := by omega
                    exact pm_chk_6
                  · skip
                    obtain rfl : mi = 7 := by omega
                    exact pm_chk_7
              · skip
                by_cases q8_11 : mi < 9
                · skip
                  obtain rfl : mi = 8 := by omega
                  exact pm_chk_8
                · skip
                  by_cases q9_11 : mi < 10
                  · skip
                    obtain rfl : mi = 9 := by omega
                    exact pm_chk_9
                  · skip
                    obtain rfl : mi = 10 := by omega
                    exact pm_chk_10
          · skip
            by_cases q11_22 : mi < 16
            · skip
              by_cases q11_16 : mi < 13
              · skip
                by_cases q11_13 : mi < 12
                · skip
                  obtain rfl : mi = 11 := by omega
                  exact pm_chk_11
                · skip
                  obtain rfl : mi = 12 := by omega
                  exact pm_chk_12
              · skip
                by_cases q13_16 : mi < 14
                · skip
                  obtain rfl : mi = 13 := by omega
                  exact pm_chk_13
                · skip
                  by_cases q14_16 : mi < 15
                  · skip
                    obtain rfl : mi = 14 := by omega
                    exact pm_chk_14
                  · skip
                    obtain rfl : mi = 15 := by omega
                    exact pm_chk_15
            · skip
              by_cases q16_22 : mi < 19
              · skip
                by_cases q16_19 : mi < 17
                · skip
                  obtain rfl : mi = 16 := by omega
                  exact pm_chk_16
                · skip
                  by_cases q17_19 : mi < 18
                  · skip
                    obtain rfl : mi = 17 := by omega
                    exact pm_chk_17
                  · skip
                    obtain rfl : mi = 18 := by omega
                    exact pm_chk_18
              · skip
                by_cases q19_22 : mi < 20
                · skip
                  obtain rfl : mi = 19 := by omega
                  exact pm_chk_19
                · skip
                  by_cases q20_22 : mi < 21
                  · skip
                    obtain rfl : mi = 20 := by omega
                    exact pm_chk_20
                  · skip
                    obtain rfl : mi = 21 := by omega
                    exact pm_chk_21
        · skip
          by_cases q22_45 : mi < 33
          · skip
            by_cases q22_33 : mi < 27
            · skip
              by_cases q22_27 : mi < 24
              · skip
                by_cases q22_24 : mi < 23
                · skip
                  obtain rfl : mi = 22 := by omega
                  exact pm_chk_22
                · skip
                  obtain rfl : mi = 23 := by omega
                  exact pm_chk_23
              · skip
                by_cases q24_27 : mi < 25
                · skip
                  obtain rfl : mi = 24 := by omega
                  exact pm_chk_24
                · skip
                  by_cases q25_27 : mi < 26
                  · skip
                    obtain rfl : mi = 25 := by omega
                    exact pm_chk_25
                  · skip
                    obtain rfl : mi = 26 := by omega
                    exact pm_chk_26
            · skip
              by_cases q27_33 : mi < 30
              · skip
                by_cases q27_30 : mi < 28
                · skip
                  obtain rfl : mi = 27 := by omega
                  exact pm_chk_27
                · skip
                  by_cases q28_30 : mi < 29
                  · skip
                    obtain rfl : mi = 28 := by omega
                    exact pm_chk_28
                  · skip
                    obtain rfl : mi = 29 := by omega
                    exact pm_chk_29
              · skip
                by_cases q30_33 : mi < 31
                · skip
                  obtain rfl : mi = 30 := by omega
                  exact pm_chk_30
                · skip
                  by_cases q31_33 : mi < 32
                  · skip
                    obtain rfl : mi = 31 := by omega
                    exact pm_chk_31
                  · skip
                    obtain rfl : mi = 32 := by omega
                    exact pm_chk_32
          · skip
            by_cases q33_45 : mi < 39
            · skip
              by_cases q33_39 : mi < 36
              · skip
                by_cases q33_36 : mi < 34
                · skip
                  obtain rfl : mi = 33 := by omega
                  exact pm_chk_33
                · skip
                  by_cases q34_36 : mi < 35
                  · skip
                    obtain rfl : mi = 34 := by omega
                    exact pm_chk_34
                  · skip
                    obtain rfl : mi = 35 := by omega
                    exact pm_chk_35
              · skip
                by_cases q36_39 : mi < 37
                · skip
                  obtain rfl : mi = 36 := by omega
                  exact pm_chk_36
                · skip
                  by_cases q37_39 : mi < 38
                  · skip
                    obtain rfl : mi = 37 := by omega
                    exact pm_chk_37
                  · skip
                    obtain rfl : mi = 38 := by omega
                    exact pm_chk_38
            · skip
              by_cases q39_45 : mi < 42
              · skip
                by_cases q39_42 : mi < 40
                · skip
                  obtain rfl : mi = 39 := by omega
                  exact pm_chk_39
                · skip
                  by_cases q40_42 : mi < 41
                  · skip
                    obtain rfl : mi = 40 := by omega
                    exact pm_chk_40
                  · skip
                    obtain rfl : mi = 41 := by omega
                    exact pm_chk_41
              · skip
                by_cases q42_45 : mi < 43
                · skip
                  obtain rfl : mi = 42 := by omega
                  exact pm_chk_42
                · skip
                  by_cases q43_45 : mi < 44
                  · skip
                    obtain rfl : mi = 43 := by omega
                    exact pm_chk_43
                  · skip
                    obtain rfl : mi = 44 := by omega
                    exact pm_chk_44
      · skip
        by_cases q45_90 : mi < 67
        · skip
          by_cases q45_67 : mi < 56
          · skip
            by_cases q45_56 : mi < 50
            · skip
              by_cases q45_50 : mi < 47
              · skip
                by_cases q45_47 : mi < 46
                · skip
                  obtain rfl : mi = 45 := by omega
                  exact pm_chk_45
                · skip
                  obtain rfl : mi = 46 := by omega
                  exact pm_chk_46
              · skip
                by_cases q47_50 : mi < 48
                · skip
                  obtain rfl : mi = 47 := by omega
                  exact pm_chk_47
                · skip
                  by_cases q48_50 : mi < 49
                  · skip
                    obtain rfl : mi = 48 := by omega
                    exact pm_chk_48
                  · skip
                    obtain rfl : mi = 49 := by omega
                    exact pm_chk_49
            · skip
              by_cases q50_56 : mi < 53
              · skip
                by_cases q50_53 : mi < 51
                · skip
                  obtain rfl : mi = 50 := by omega
                  exact pm_chk_50
                · skip
                  by_cases q51_53 : mi < 52
                  · skip
                    obtain rfl : mi = 51 := by omega
                    exact pm_chk_51
                  · skip
                    obtain rfl : mi = 52 := by omega
                    exact pm_chk_52
              · skip
                by_cases q53_56 : mi < 54
                · skip
                  obtain rfl : mi = 53 := by omega
                  exact pm_chk_53
                · skip
                  by_cases q54_56 : mi < 55
                  · skip
                    obtain rfl : mi = 54 := by omega
                    exact pm_chk_54
                  · skip
                    obtain rfl : mi = 55 := by omega
                    exact pm_chk_55
          · skip
            by_cases q56_67 : mi < 61
            · skip
              by_cases q56_61 : mi < 58
              · skip
                by_cases q56_58 : mi < 57
                · skip
                  obtain rfl : mi = 56 := by omega
                  exact pm_chk_56
                · skip
                  obtain rfl : mi = 57 := by omega
                  exact pm_chk_57
              · skip
                by_cases q58_61 : mi < 59
                · skip
                  obtain rfl : mi = 58 := by omega
                  exact pm_chk_58
                · skip
                  by_cases q59_61 : mi < 60
                  · skip
                    obtain rfl : mi = 59 := by omega
                    exact pm_chk_59
                  · skip
                    obtain rfl : mi = 60 := by omega
                    exact pm_chk_60
            · skip
              by_cases q61_67 : mi < 64
              · skip
                by_cases q61_64 : mi < 62
                · skip
                  obtain rfl : mi = 61 := by omega
                  exact pm_chk_61
                · skip
                  by_cases q62_64 : mi < 63
                  · skip
                    obtain rfl : mi = 62 := by omega
                    exact pm_chk_62
                  · skip
                    obtain rfl : mi = 63 := by omega
                    exact pm_chk_63
              · skip
                by_cases q64_67 : mi < 65
                · skip
                  obtain rfl : mi = 64 := by omega
                  exact pm_chk_64
                · skip
                  by_cases q65_67 : mi < 66
                  · skip
                    obtain rfl : mi = 65 := by omega
                    exact pm_chk_65
                  · skip
                    obtain rfl : mi = 66 := by omega
                    exact pm_chk_66
        · skip
          by_cases q67_90 : mi < 78
          · skip
            by_cases q67_78 : mi < 72
            · skip
              by_cases q67_72 : mi < 69
              · skip
                by_cases q67_69 : mi < 68
                · skip
                  obtain rfl : mi = 67 := by omega
                  exact pm_chk_67
                · skip
                  obtain rfl : mi = 68 := by omega
                  exact pm_chk_68
              · skip
                by_cases q69_72 : mi < 70
                · skip
                  obtain rfl : mi = 69 := by omega
                  exact pm_chk_69
                · skip
                  by_cases q70_72 : mi < 71
                  · skip
                    obtain rfl : mi = 70 := by omega
                    exact pm_chk_70
                  · skip
                    obtain rfl : mi = 71 := by omega
                    exact pm_chk_71
            · skip
              by_cases q72_78 : mi < 75
              · skip
                by_cases q72_75 : mi < 73
                · skip
                  obtain rfl : mi = 72 := by omega
                  exact pm_chk_72
                · skip
                  by_cases q73_75 : mi < 74
                  · skip
                    obtain rfl : mi = 73 := by omega
                    exact pm_chk_73
                  · skip
                    obtain rfl : mi = 74 := by omega
                    exact pm_chk_74
              · skip
                by_cases q75_78 : mi < 76
                · skip
                  obtain rfl : mi = 75 := by omega
                  exact pm_chk_75
                · skip
                  by_cases q76_78 : mi < 77
                  · skip
                    obtain rfl : mi = 76 := by omega
                    exact pm_chk_76
                  · skip
                    obtain rfl : mi = 77 := by omega
                    exact pm_chk_77
          · skip
            by_cases q78_90 : mi < 84
            · skip
              by_cases q78_84 : mi < 81
              · skip
                by_cases q78_81 : mi < 79
                · skip
                  obtain rfl : mi = 78 := by omega
                  exact pm_chk_78
                · skip
                  by_cases q79_81 : mi < 80
                  · skip
                    obtain rfl : mi = 79 := by omega
                    exact pm_chk_79
                  · skip
                    obtain rfl : mi = 80 := by omega
                    exact pm_chk_80
              · skip
                by_cases q81_84 : mi < 82
                · skip
                  obtain rfl : mi = 81 := by omega
                  exact pm_chk_81
                · skip
                  by_cases q82_84 : mi < 83
                  · skip
                    obtain rfl : mi = 82 := by omega
                    exact pm_chk_82
                  · skip
                    obtain rfl : mi = 83 := by omega
                    exact pm_chk_83
            · skip
              by_cases q84_90 : mi < 87
              · skip
                by_cases q84_87 : mi < 85
                · skip
                  obtain rfl : mi = 84 := by omega
                  exact pm_chk_84
                · skip
                  by_cases q85_87 : mi < 86
                  · skip
                    obtain rfl : mi = 85 := by omega
                    exact pm_chk_85
                  · skip
                    obtain rfl : mi = 86 := by omega
                    exact pm_chk_86
              · skip
                by_cases q87_90 : mi < 88
                · skip
                  obtain rfl : mi = 87 := by omega
                  exact pm_chk_87
                · skip
                  by_cases q88_90 : mi < 89
                  · skip
                    obtain rfl : mi = 88 := by omega
                    exact pm_chk_88
                  · skip
                    obtain rfl : mi = 89 := by omega
                    exact pm_chk_89
    · skip
      by_cases q90_180 : mi < 135
      · skip
        by_cases q90_135 : mi < 112
        · skip
          by_cases q90_112 : mi < 101
          · skip
            by_cases q90_101 : mi < 95
            · skip
              by_cases q90_95 : mi < 92
              · skip
                by_cases q90_92 : mi < 91
                · skip
                  obtain rfl : mi = 90 := by omega
                  exact pm_chk_90
                · skip
                  obtain rfl : mi = 91 := by omega
                  exact pm_chk_91
              · skip
                by_cases q92_95 : mi < 93
                · skip
                  obtain rfl : mi = 92 := by omega
                  exact pm_chk_92
                · skip
                  by_cases q93_95 : mi < 94
                  · skip
                    obtain rfl : mi = 93 := by omega
                    exact pm_chk_93
                  · skip
                    obtain rfl : mi = 94 := by omega
                    exact pm_chk_94
            · skip
              by_cases q95_101 : mi < 98
              · skip
                by_cases q95_98 : mi < 96
                · skip
                  obtain rfl : mi = 95 := by omega
                  exact pm_chk_95
                · skip
                  by_cases q96_98 : mi < 97
                  · skip
                    obtain rfl : mi = 96 := by omega
                    exact pm_chk_96
                  · skip
                    obtain rfl : mi = 97 := by omega
                    exact pm_chk_97
              · skip
                by_cases q98_101 : mi < 99
                · skip
                  obtain rfl : mi = 98 := by omega
                  exact pm_chk_98
                · skip
                  by_cases q99_101 : mi < 100
                  · skip
                    obtain rfl : mi = 99 := by omega
                    exact pm_chk_99
                  · skip
                    obtain rfl : mi = 100 := by omega
                    exact pm_chk_100
          · skip
            by_cases q101_112 : mi < 106
            · skip
              by_cases q101_106 : mi < 103
              · skip
                by_cases q101_103 : mi < 102
                · skip
                  obtain rfl : mi = 101 := by omega
                  exact pm_chk_101
                · skip
                  obtain rfl : mi = 102 := by omega
                  exact pm_chk_102
              · skip
                by_cases q103_106 : mi < 104
                · skip
                  obtain rfl : mi = 103 := by omega
                  exact pm_chk_103
                · skip
                  by_cases q104_106 : mi < 105
                  · skip
                    obtain rfl : mi = 104 := by omega
                    exact pm_chk_104
                  · skip
                    obtain rfl : mi = 105 := by omega
                    exact pm_chk_105
            · skip
              by_cases q106_112 : mi < 109
              · skip
                by_cases q106_109 : mi < 107
                · skip
                  obtain rfl : mi = 106 := by omega
                  exact pm_chk_106
                · skip
                  by_cases q107_109 : mi < 108
                  · skip
                    obtain rfl : mi = 107 := by omega
                    exact pm_chk_107
                  · skip
                    obtain rfl : mi = 108 := by omega
                    exact pm_chk_108
              · skip
                by_cases q109_112 : mi < 110
                · skip
                  obtain rfl : mi = 109 := by omega
                  exact pm_chk_109
                · skip
                  by_cases q110_112 : mi < 111
                  · skip
                    obtain rfl : mi = 110 := by omega
                    exact pm_chk_110
                  · skip
                    obtain rfl : mi = 111 := by omega
                    exact pm_chk_111
        · skip
          by_cases q112_135 : mi < 123
          · skip
            by_cases q112_123 : mi < 117
            · skip
              by_cases q112_117 : mi < 114
              · skip
                by_cases q112_114 : mi < 113
                · skip
                  obtain rfl : mi = 112 := by omega
                  exact pm_chk_112
                · skip
                  obtain rfl : mi = 113 := by omega
                  exact pm_chk_113
              · skip
                by_cases q114_117 : mi < 115
                · skip
                  obtain rfl : mi = 114 := by omega
                  exact pm_chk_114
                · skip
                  by_cases q115_117 : mi < 116
                  · skip
                    obtain rfl : mi = 115 := by omega
                    exact pm_chk_115
                  · skip
                    obtain rfl : mi = 116 := by omega
                    exact pm_chk_116
            · skip
              by_cases q117_123 : mi < 120
              · skip
                by_cases q117_120 : mi < 118
                · skip
                  obtain rfl : mi = 117 := by omega
                  exact pm_chk_117
                · skip
                  by_cases q118_120 : mi < 119
                  · skip
                    obtain rfl : mi = 118 := by omega
                    exact pm_chk_118
                  · skip
                    obtain rfl : mi = 119 := by omega
                    exact pm_chk_119
              · skip
                by_cases q120_123 : mi < 121
                · skip
                  obtain rfl : mi = 120 := by omega
                  exact pm_chk_120
                · skip
                  by_cases q121_123 : mi < 122
                  · skip
                    obtain rfl : mi = 121 := by omega
                    exact pm_chk_121
                  · skip
                    obtain rfl : mi = 122 := by omega
                    exact pm_chk_122
          · skip
            by_cases q123_135 : mi < 129
            · skip
              by_cases q123_129 : mi < 126
              · skip
                by_cases q123_126 : mi < 124
                · skip
                  obtain rfl : mi = 123 := by omega
                  exact pm_chk_123
                · skip
                  by_cases q124_126 : mi < 125
                  · skip
                    obtain rfl : mi = 124 := by omega
                    exact pm_chk_124
                  · skip
                    obtain rfl : mi = 125 := by omega
                    exact pm_chk_125
              · skip
                by_cases q126_129 : mi < 127
                · skip
                  obtain rfl : mi = 126 := by omega
                  exact pm_chk_126
                · skip
                  by_cases q127_129 : mi < 128
                  · skip
                    obtain rfl : mi = 127 := by omega
                    exact pm_chk_127
                  · skip
                    obtain rfl : mi = 128 := by omega
                    exact pm_chk_128
            · skip
              by_cases q129_135 : mi < 132
              · skip
                by_cases q129_132 : mi < 130
                · skip
                  obtain rfl : mi = 129 := by omega
                  exact pm_chk_129
                · skip
                  by_cases q130_132 : mi < 131
                  · skip
                    obtain rfl : mi = 130 := by omega
                    exact pm_chk_130
                  · skip
                    obtain rfl : mi = 131 := by omega
                    exact pm_chk_131
              · skip
                by_cases q132_135 : mi < 133
                · skip
                  obtain rfl : mi = 132 := by omega
                  exact pm_chk_132
                · skip
                  by_cases q133_135 : mi < 134
                  · skip
                    obtain rfl : mi = 133 := by omega
                    exact pm_chk_133
                  · skip
                    obtain rfl : mi = 134 := by omega
                    exact pm_chk_134
      · skip
        by_cases q135_180 : mi < 157
        · skip
          by_cases q135_157 : mi < 146
          · skip
            by_cases q135_146 : mi < 140
            · skip
              by_cases q135_140 : mi < 137
              · skip
                by_cases q135_137 : mi < 136
                · skip
                  obtain rfl : mi = 135 := by omega
                  exact pm_chk_135
                · skip
                  obtain rfl : mi = 136 := by omega
                  exact pm_chk_136
              · skip
                by_cases q137_140 : mi < 138
                · skip
                  obtain rfl : mi = 137 := by omega
                  exact pm_chk_137
                · skip
                  by_cases q138_140 : mi < 139
                  · skip
                    obtain rfl : mi = 138 := by omega
                    exact pm_chk_138
                  · skip
                    obtain rfl : mi = 139 := by omega
                    exact pm_chk_139
            · skip
              by_cases q140_146 : mi < 143
              · skip
                by_cases q140_143 : mi < 141
                · skip
                  obtain rfl : mi = 140 := by omega
                  exact pm_chk_140
                · skip
                  by_cases q141_143 : mi < 142
                  · skip
                    obtain rfl : mi = 141 := by omega
                    exact pm_chk_141
                  · skip
                    obtain rfl : mi = 142 := by omega
                    exact pm_chk_142
              · skip
                by_cases q143_146 : mi < 144
                · skip
                  obtain rfl : mi = 143 := by omega
                  exact pm_chk_143
                · skip
                  by_cases q144_146 : mi < 145
                  · skip
                    obtain rfl : mi = 144 := by omega
                    exact pm_chk_144
                  · skip
                    obtain rfl : mi = 145 := by omega
                    exact pm_chk_145
          · skip
            by_cases q146_157 : mi < 151
            · skip
              by_cases q146_151 : mi < 148
              · skip
                by_cases q146_148 : mi < 147
                · skip
                  obtain rfl : mi = 146 := by omega
                  exact pm_chk_146
                · skip
                  obtain rfl : mi = 147 := by omega
                  exact pm_chk_147
              · skip
                by_cases q148_151 : mi < 149
                · skip
                  obtain rfl : mi = 148 := by omega
                  exact pm_chk_148
                · skip
                  by_cases q149_151 : mi < 150
                  · skip
                    obtain rfl : mi = 149 := by omega
                    exact pm_chk_149
                  · skip
                    obtain rfl : mi = 150 := by omega
                    exact pm_chk_150
            · skip
              by_cases q151_157 : mi < 154
              · skip
                by_cases q151_154 : mi < 152
                · skip
                  obtain rfl : mi = 151 := by omega
                  exact pm_chk_151
                · skip
                  by_cases q152_154 : mi < 153
                  · skip
                    obtain rfl : mi = 152 := by omega
                    exact pm_chk_152
                  · skip
                    obtain rfl : mi = 153 := by omega
                    exact pm_chk_153
              · skip
                by_cases q154_157 : mi < 155
                · skip
                  obtain rfl : mi = 154 := by omega
                  exact pm_chk_154
                · skip
                  by_cases q155_157 : mi < 156
                  · skip
                    obtain rfl : mi = 155 := by omega
                    exact pm_chk_155
                  · skip
                    obtain rfl : mi = 156 := by omega
                    exact pm_chk_156
        · skip
          by_cases q157_180 : mi < 168
          · skip
            by_cases q157_168 : mi < 162
            · skip
              by_cases q157_162 : mi < 159
              · skip
                by_cases q157_159 : mi < 158
                · skip
                  obtain rfl : mi = 157 := by omega
                  exact pm_chk_157
                · skip
                  obtain rfl : mi = 158 := by omega
                  exact pm_chk_158
              · skip
                by_cases q159_162 : mi < 160
                · skip
                  obtain rfl : mi = 159 := by omega
                  exact pm_chk_159
                · skip
                  by_cases q160_162 : mi < 161
                  · skip
                    obtain rfl : mi = 160 := by omega
                    exact pm_chk_160
                  · skip
                    obtain rfl : mi = 161 := by omega
                    exact pm_chk_161
            · skip
              by_cases q162_168 : mi < 165
              · skip
                by_cases q162_165 : mi < 163
                · skip
                  obtain rfl : mi = 162 := by omega
                  exact pm_chk_162
                · skip
                  by_cases q163_165 : mi < 164
                  · skip
                    obtain rfl : mi = 163 := by omega
                    exact pm_chk_163
                  · skip
                    obtain rfl : mi = 164 := by omega
                    exact pm_chk_164
              · skip
                by_cases q165_168 : mi < 166
                · skip
                  obtain rfl : mi = 165 := by omega
                  exact pm_chk_165
                · skip
                  by_cases q166_168 : mi < 167
                  · skip
                    obtain rfl : mi = 166 := by omega
                    exact pm_chk_166
                  · skip
                    obtain rfl : mi = 167 := by omega
                    exact pm_chk_167
          · skip
            by_cases q168_180 : mi < 174
            · skip
              by_cases q168_174 : mi < 171
              · skip
                by_cases q168_171 : mi < 169
                · skip
                  obtain rfl : mi = 168 := by omega
                  exact pm_chk_168
                · skip
                  by_cases q169_171 : mi < 170
                  · skip
                    obtain rfl : mi = 169 := by omega
                    exact pm_chk_169
                  · skip
                    obtain rfl : mi = 170 := by omega
                    exact pm_chk_170
              · skip
                by_cases q171_174 : mi < 172
                · skip
                  obtain rfl : mi = 171 := by omega
                  exact pm_chk_171
                · skip
                  by_cases q172_174 : mi < 173
                  · skip
                    obtain rfl : mi = 172 := by omega
                    exact pm_chk_172
                  · skip
                    obtain rfl : mi = 173 := by omega
                    exact pm_chk_173
            · skip
              by_cases q174_180 : mi < 177
              · skip
                by_cases q174_177 : mi < 175
                · skip
                  obtain rfl : mi = 174 := by omega
                  exact pm_chk_174
                · skip
                  by_cases q175_177 : mi < 176
                  · skip
                    obtain rfl : mi = 175 := by omega
                    exact pm_chk_175
                  · skip
                    obtain rfl : mi = 176 := by omega
                    exact pm_chk_176
              · skip
                by_cases q177_180 : mi < 178
                · skip
                  obtain rfl : mi = 177 := by omega
                  exact pm_chk_177
                · skip
                  by_cases q178_180 : mi < 179
                  · skip
                    obtain rfl : mi = 178 := by omega
                    exact pm_chk_178
                  · skip
                    obtain rfl : mi = 179 := by omega
                    exact pm_chk_179
  exact List.all_eq_true.mp (key mi hm) pc (List.mem_range.mpr hp)
