/-! 61 StripCloth$Tape.<init>()V -/
theorem B61_0 {h : pm_H} {Q : Option Value → pm_H → Prop} {r0 : Nat} (g1 : ¬ (Int32.ofInt 800) < 0 ∧ ((Int32.ofInt 800)).toNatClampNeg ≤ 100000) (g2 : zT (yN h 101 ((Int32.ofInt 800)).toNatClampNeg ((Int32.ofInt 800)).toNatClampNeg) r0 = 10) (k : WP 61 13 [some (.ref r0)] [] (yR (yN h 101 ((Int32.ofInt 800)).toNatClampNeg ((Int32.ofInt 800)).toNatClampNeg) r0 0 (some (zn h))) Q) : WP 61 0 [some (.ref r0)] [] h Q :=
  WP.nx rfl (WP.nx rfl (WP.nx rfl (WP.nx rfl (WP.gd rfl g1 (WP.gd rfl g2 (k))))))
theorem B61_13 {h : pm_H} {Q : Option Value → pm_H → Prop} {r0 : Nat} (g1 : zT h r0 = 10) (k : Q none (yI (yI (yI (yI (yI h r0 1 (Int32.ofInt 0)) r0 2 (Int32.ofInt 0)) r0 3 (Int32.ofInt 0)) r0 4 (Int32.ofInt 0)) r0 5 (Int32.ofInt 0))) : WP 61 13 [some (.ref r0)] [] h Q :=
  WP.nx rfl (WP.nx rfl (WP.gd rfl g1 (WP.nx rfl (WP.nx rfl (WP.gd rfl g1 (WP.nx rfl (WP.nx rfl (WP.gd rfl g1 (WP.nx rfl (WP.nx rfl (WP.gd rfl g1 (WP.nx rfl (WP.nx rfl (WP.gd rfl g1 (WP.rt rfl trivial k)))))))))))))))
/-! 62 StripCloth$Tape.add(IIIII)I -/
theorem B62_0 {h : pm_H} {Q : Option Value → pm_H → Prop} {r0 : Nat} {d1 : Option Value} {d2 : Option Value} {d3 : Option Value} {d4 : Option Value} {d5 : Option Value} {b2 : Nat} (g1 : zT h r0 = 10) (e3 : zR h r0 0 = some b2) (g4 : 100 ≤ zT h b2 ∧ zT h b2 ≤ 105) (kt : ((zI h r0 1) + (Int32.ofInt 20)) ≤ (Int32.ofInt (zN h b2)) → WP 62 17 [some (.ref r0), d1, d2, d3, d4, d5] [] h Q) (kf : ¬ ((zI h r0 1) + (Int32.ofInt 20)) ≤ (Int32.ofInt (zN h b2)) → WP 62 15 [some (.ref r0), d1, d2, d3, d4, d5] [] h Q) : WP 62 0 [some (.ref r0), d1, d2, d3, d4, d5] [] h Q :=
  WP.nx rfl (WP.gd rfl g1 (WP.nx rfl (WP.nx rfl (WP.nx rfl (WP.gd rfl g1 (WP.top (congrArg va_rf e3) (WP.gd rfl g4 (WP.br rfl kt kf))))))))
theorem B62_15 {h : pm_H} {Q : Option Value → pm_H → Prop} {d0 : Option Value} {d1 : Option Value} {d2 : Option Value} {d3 : Option Value} {d4 : Option Value} {d5 : Option Value} (k : Q (some (.int (Int32.ofInt (-1)))) h) : WP 62 15 [d0, d1, d2, d3, d4, d5] [] h Q :=
  WP.nx rfl (WP.rt rfl trivial k)
theorem B62_17 {h : pm_H} {Q : Option Value → pm_H → Prop} {r0 : Nat} {x1 : Int32} {d2 : Option Value} {d3 : Option Value} {d4 : Option Value} {d5 : Option Value} (g1 : zT h r0 = 10) (k : WP 63 0 [some (.ref r0), some (.int x1), none] [] h (fun v1 h1 => WP 62 22 [some (.ref r0), some (.int x1), d2, d3, d4, d5] (v1.toList ++ []) h1 Q)) : WP 62 17 [some (.ref r0), some (.int x1), d2, d3, d4, d5] [] h Q :=
  WP.nx rfl (WP.nx rfl (WP.cl rfl g1 k))
theorem B62_22 {h : pm_H} {Q : Option Value → pm_H → Prop} {r0 : Nat} {d1 : Option Value} {x2 : Int32} {d3 : Option Value} {d4 : Option Value} {d5 : Option Value} (g1 : zT h r0 = 10) (k : WP 63 0 [some (.ref r0), some (.int x2), none] [] h (fun v1 h1 => WP 62 27 [some (.ref r0), d1, some (.int x2), d3, d4, d5] (v1.toList ++ []) h1 Q)) : WP 62 22 [some (.ref r0), d1, some (.int x2), d3, d4, d5] [] h Q :=
  WP.nx rfl (WP.nx rfl (WP.cl rfl g1 k))
theorem B62_27 {h : pm_H} {Q : Option Value → pm_H → Prop} {r0 : Nat} {d1 : Option Value} {d2 : Option Value} {x3 : Int32} {d4 : Option Value} {d5 : Option Value} (g1 : zT h r0 = 10) (k : WP 63 0 [some (.ref r0), some (.int x3), none] [] h (fun v1 h1 => WP 62 32 [some (.ref r0), d1, d2, some (.int x3), d4, d5] (v1.toList ++ []) h1 Q)) : WP 62 27 [some (.ref r0), d1, d2, some (.int x3), d4, d5] [] h Q :=
  WP.nx rfl (WP.nx rfl (WP.cl rfl g1 k))
theorem B62_32 {h : pm_H} {Q : Option Value → pm_H → Prop} {r0 : Nat} {d1 : Option Value} {d2 : Option Value} {d3 : Option Value} {x4 : Int32} {d5 : Option Value} (g1 : zT h r0 = 10) (k : WP 63 0 [some (.ref r0), some (.int x4), none] [] h (fun v1 h1 => WP 62 38 [some (.ref r0), d1, d2, d3, some (.int x4), d5] (v1.toList ++ []) h1 Q)) : WP 62 32 [some (.ref r0), d1, d2, d3, some (.int x4), d5] [] h Q :=
  WP.nx rfl (WP.nx rfl (WP.cl rfl g1 k))
theorem B62_38 {h : pm_H} {Q : Option Value → pm_H → Prop} {r0 : Nat} {d1 : Option Value} {d2 : Option Value} {d3 : Option Value} {d4 : Option Value} {x5 : Int32} (g1 : zT h r0 = 10) (k : WP 63 0 [some (.ref r0), some (.int x5), none] [] h (fun v1 h1 => WP 62 44 [some (.ref r0), d1, d2, d3, d4, some (.int x5)] (v1.toList ++ []) h1 Q)) : WP 62 38 [some (.ref r0), d1, d2, d3, d4, some (.int x5)] [] h Q :=
  WP.nx rfl (WP.nx rfl (WP.cl rfl g1 k))
theorem B62_44 {h : pm_H} {Q : Option Value → pm_H → Prop} {r0 : Nat} {d1 : Option Value} {d2 : Option Value} {d3 : Option Value} {d4 : Option Value} {d5 : Option Value} (g1 : zT h r0 = 10) (k : Q (some (.int (zI h r0 1))) h) : WP 62 44 [some (.ref r0), d1, d2, d3, d4, d5] [] h Q :=
  WP.nx rfl (WP.gd rfl g1 (WP.rt rfl trivial k))
/-! 63 StripCloth$Tape.addWhole(I)V -/
theorem B63_0 {h : pm_H} {Q : Option Value → pm_H → Prop} {d0 : Option Value} {x1 : Int32} {d2 : Option Value} (k : WP 63 3 [d0, some (.int x1), some (.int (Int32.ofInt 24))] [] h Q) : WP 63 0 [d0, some (.int x1), d2] [] h Q :=
  WP.nx rfl (WP.nx rfl (k))
theorem B63_3 {h : pm_H} {Q : Option Value → pm_H → Prop} {d0 : Option Value} {d1 : Option Value} {x2 : Int32} (kt : x2 < 0 → WP 63 48 [d0, d1, some (.int x2)] [] h Q) (kf : ¬ x2 < 0 → WP 63 7 [d0, d1, some (.int x2)] [] h Q) : WP 63 3 [d0, d1, some (.int x2)] [] h Q :=
  WP.nx rfl (WP.br rfl kt kf)
theorem B63_7 {h : pm_H} {Q : Option Value → pm_H → Prop} {r0 : Nat} {d1 : Option Value} {d2 : Option Value} {b2 : Nat} (g1 : zT h r0 = 10) (e3 : zR h r0 0 = some b2) (g4 : 100 ≤ zT h b2 ∧ zT h b2 ≤ 105) (kt : (Int32.ofInt (zN h b2)) ≤ (zI h r0 1) → WP 63 48 [some (.ref r0), d1, d2] [] h Q) (kf : ¬ (Int32.ofInt (zN h b2)) ≤ (zI h r0 1) → WP 63 19 [some (.ref r0), d1, d2] [] h Q) : WP 63 7 [some (.ref r0), d1, d2] [] h Q :=
  WP.nx rfl (WP.gd rfl g1 (WP.nx rfl (WP.gd rfl g1 (WP.top (congrArg va_rf e3) (WP.gd rfl g4 (WP.br rfl kt kf))))))
theorem B63_19 {h : pm_H} {Q : Option Value → pm_H → Prop} {r0 : Nat} {x1 : Int32} {x2 : Int32} {b2 : Nat} (g1 : zT h r0 = 10) (e3 : zR h r0 0 = some b2) (g4 : zT h b2 = 101 ∧ vp_in (zI h r0 1) (zN h b2)) (k : WP 63 3 [some (.ref r0), some (.int x1), some (.int (x2 + (Int32.ofInt (-8))))] [] (yI (yI h b2 ((zI h r0 1)).toNatClampNeg ((x1 >>> (x2 &&& 31))).toInt8.toInt32.toInt8.toInt32) r0 1 ((zI (yI h b2 ((zI h r0 1)).toNatClampNeg ((x1 >>> (x2 &&& 31))).toInt8.toInt32.toInt8.toInt32) r0 1) + (Int32.ofInt 1))) Q) : WP 63 19 [some (.ref r0), some (.int x1), some (.int x2)] [] h Q :=
  WP.nx rfl (WP.gd rfl g1 (WP.top (congrArg va_rf e3) (WP.nx rfl (WP.gd rfl g1 (WP.nx rfl (WP.nx rfl (WP.nx rfl (WP.nx rfl (WP.gd rfl g4 (WP.nx rfl (WP.nx rfl (WP.gd rfl g1 (WP.nx rfl (WP.nx rfl (WP.gd rfl g1 (WP.nx rfl (WP.nx rfl (k))))))))))))))))))
theorem B63_48 {h : pm_H} {Q : Option Value → pm_H → Prop} {d0 : Option Value} {d1 : Option Value} {d2 : Option Value} (k : Q none h) : WP 63 48 [d0, d1, d2] [] h Q :=
  WP.rt rfl trivial k
/-! 64 StripCloth$Tape.begin(I)V -/
theorem B64_0 {h : pm_H} {Q : Option Value → pm_H → Prop} {r0 : Nat} {x1 : Int32} (g1 : zT h r0 = 10) (k : Q none (yI (yI h r0 2 (if (zI h r0 1) < x1 then (zI h r0 1) else x1)) r0 3 (Int32.ofInt 0))) : WP 64 0 [some (.ref r0), some (.int x1)] [] h Q :=
  WP.nx rfl (WP.nx rfl (WP.nx rfl (WP.gd rfl g1 (WP.nx rfl (WP.gd rfl g1 (WP.nx rfl (WP.nx rfl (WP.gd rfl g1 (WP.rt rfl trivial k)))))))))
/-! 65 StripCloth$Tape.clear()V -/
theorem B65_0 {h : pm_H} {Q : Option Value → pm_H → Prop} {r0 : Nat} (g1 : zT h r0 = 10) (k : Q none (yI h r0 1 (Int32.ofInt 0))) : WP 65 0 [some (.ref r0)] [] h Q :=
  WP.nx rfl (WP.nx rfl (WP.gd rfl g1 (WP.rt rfl trivial k)))
/-! 66 StripCloth$Tape.step()V -/
theorem B66_0 {h : pm_H} {Q : Option Value → pm_H → Prop} {r0 : Nat} {d1 : Option Value} (g1 : zT h r0 = 10) (kt : (zI h r0 2) ≤ (zI h r0 3) → WP 66 40 [some (.ref r0), d1] [] h Q) (kf : ¬ (zI h r0 2) ≤ (zI h r0 3) → WP 66 11 [some (.ref r0), d1] [] h Q) : WP 66 0 [some (.ref r0), d1] [] h Q :=
  WP.nx rfl (WP.gd rfl g1 (WP.nx rfl (WP.gd rfl g1 (WP.br rfl kt kf))))
theorem B66_11 {h : pm_H} {Q : Option Value → pm_H → Prop} {r0 : Nat} {d1 : Option Value} {b2 : Nat} (g1 : zT h r0 = 10) (e3 : zR h r0 0 = some b2) (g4 : zT h b2 = 101 ∧ vp_in (zI h r0 3) (zN h b2)) (k : WP 67 0 [some (.int (zI h b2 ((zI h r0 3)).toNatClampNeg))] [] h (fun v1 h1 => WP 66 23 [some (.ref r0), d1] (v1.toList ++ []) h1 Q)) : WP 66 11 [some (.ref r0), d1] [] h Q :=
  WP.nx rfl (WP.gd rfl g1 (WP.top (congrArg va_rf e3) (WP.nx rfl (WP.gd rfl g1 (WP.gd rfl g4 (WP.cl rfl trivial k))))))
theorem B66_23 {h : pm_H} {Q : Option Value → pm_H → Prop} {d0 : Option Value} {d1 : Option Value} {s0 : Int32} (kt : ¬ s0 = (Int32.ofInt 5) → WP 66 40 [d0, d1] [] h Q) (kf : s0 = (Int32.ofInt 5) → WP 66 27 [d0, d1] [] h Q) : WP 66 23 [d0, d1] [.int s0] h Q :=
  WP.nx rfl (WP.br rfl kt (fun q => kf (Decidable.not_not.mp q)))
theorem B66_27 {h : pm_H} {Q : Option Value → pm_H → Prop} {r0 : Nat} {d1 : Option Value} (g1 : zT h r0 = 10) (k : WP 66 0 [some (.ref r0), d1] [] (yI h r0 3 ((zI h r0 3) + (Int32.ofInt 1))) Q) : WP 66 27 [some (.ref r0), d1] [] h Q :=
  WP.nx rfl (WP.nx rfl (WP.gd rfl g1 (WP.nx rfl (WP.nx rfl (WP.gd rfl g1 (WP.nx rfl (k)))))))
theorem B66_40 {h : pm_H} {Q : Option Value → pm_H → Prop} {r0 : Nat} {d1 : Option Value} (g1 : zT h r0 = 10) (kt : (zI (yI h r0 5 (zI h r0 3)) r0 3) < (zI (yI h r0 5 (zI h r0 3)) r0 2) → WP 66 65 [some (.ref r0), d1] [] (yI h r0 5 (zI h r0 3)) Q) (kf : ¬ (zI (yI h r0 5 (zI h r0 3)) r0 3) < (zI (yI h r0 5 (zI h r0 3)) r0 2) → WP 66 59 [some (.ref r0), d1] [] (yI h r0 5 (zI h r0 3)) Q) : WP 66 40 [some (.ref r0), d1] [] h Q :=
  WP.nx rfl (WP.nx rfl (WP.gd rfl g1 (WP.gd rfl g1 (WP.nx rfl (WP.gd rfl g1 (WP.nx rfl (WP.gd rfl g1 (WP.br rfl kt kf))))))))
theorem B66_59 {h : pm_H} {Q : Option Value → pm_H → Prop} {r0 : Nat} {d1 : Option Value} (g1 : zT h r0 = 10) (k : Q none (yI h r0 4 (Int32.ofInt 0))) : WP 66 59 [some (.ref r0), d1] [] h Q :=
  WP.nx rfl (WP.nx rfl (WP.gd rfl g1 (WP.rt rfl trivial k)))
theorem B66_65 {h : pm_H} {Q : Option Value → pm_H → Prop} {r0 : Nat} {d1 : Option Value} {b2 : Nat} (g1 : zT h r0 = 10) (e3 : zR h r0 0 = some b2) (g4 : zT h b2 = 101 ∧ vp_in (zI h r0 3) (zN h b2)) (k : WP 67 0 [some (.int (zI h b2 ((zI h r0 3)).toNatClampNeg))] [] h (fun v1 h1 => WP 66 78 [some (.ref r0), d1] (v1.toList ++ [.ref r0]) h1 Q)) : WP 66 65 [some (.ref r0), d1] [] h Q :=
  WP.nx rfl (WP.nx rfl (WP.gd rfl g1 (WP.top (congrArg va_rf e3) (WP.nx rfl (WP.gd rfl g1 (WP.gd rfl g4 (WP.cl rfl trivial k)))))))
theorem B66_78 {h : pm_H} {Q : Option Value → pm_H → Prop} {r0 : Nat} {d1 : Option Value} {s0 : Nat} {s1 : Int32} (g1 : zT h s0 = 10) (g2 : zT h r0 = 10) (kt : (zI (yI (yI h s0 4 s1) r0 3 ((zI (yI h s0 4 s1) r0 3) + (Int32.ofInt 1))) r0 4) = (Int32.ofInt 1) → WP 66 107 [some (.ref r0), d1] [] (yI (yI h s0 4 s1) r0 3 ((zI (yI h s0 4 s1) r0 3) + (Int32.ofInt 1))) Q) (kf : ¬ (zI (yI (yI h s0 4 s1) r0 3 ((zI (yI h s0 4 s1) r0 3) + (Int32.ofInt 1))) r0 4) = (Int32.ofInt 1) → WP 66 99 [some (.ref r0), d1] [] (yI (yI h s0 4 s1) r0 3 ((zI (yI h s0 4 s1) r0 3) + (Int32.ofInt 1))) Q) : WP 66 78 [some (.ref r0), d1] [.int s1, .ref s0] h Q :=
  WP.gd rfl g1 (WP.nx rfl (WP.nx rfl (WP.gd rfl g2 (WP.nx rfl (WP.nx rfl (WP.gd rfl g2 (WP.nx rfl (WP.gd rfl g2 (WP.nx rfl (WP.br rfl kt kf))))))))))
theorem B66_99 {h : pm_H} {Q : Option Value → pm_H → Prop} {r0 : Nat} {d1 : Option Value} (g1 : zT h r0 = 10) (kt : ¬ (zI h r0 4) = (Int32.ofInt 2) → WP 66 111 [some (.ref r0), d1] [] h Q) (kf : (zI h r0 4) = (Int32.ofInt 2) → WP 66 107 [some (.ref r0), d1] [] h Q) : WP 66 99 [some (.ref r0), d1] [] h Q :=
  WP.nx rfl (WP.gd rfl g1 (WP.nx rfl (WP.br rfl kt (fun q => kf (Decidable.not_not.mp q)))))
theorem B66_107 {h : pm_H} {Q : Option Value → pm_H → Prop} {d0 : Option Value} {d1 : Option Value} (k : WP 66 112 [d0, d1] [.int (Int32.ofInt 1)] h Q) : WP 66 107 [d0, d1] [] h Q :=
  WP.nx rfl (WP.nx rfl (k))
theorem B66_111 {h : pm_H} {Q : Option Value → pm_H → Prop} {d0 : Option Value} {d1 : Option Value} (k : WP 66 112 [d0, d1] [.int (Int32.ofInt 0)] h Q) : WP 66 111 [d0, d1] [] h Q :=
  WP.nx rfl (k)
theorem B66_112 {h : pm_H} {Q : Option Value → pm_H → Prop} {r0 : Nat} {d1 : Option Value} {s0 : Int32} (k : WP 66 113 [some (.ref r0), some (.int s0)] [] h Q) : WP 66 112 [some (.ref r0), d1] [.int s0] h Q :=
  WP.nx rfl (k)
theorem B66_113 {h : pm_H} {Q : Option Value → pm_H → Prop} {d0 : Option Value} {x1 : Int32} (kt : x1 = 0 → WP 66 160 [d0, some (.int x1)] [] h Q) (kf : ¬ x1 = 0 → WP 66 117 [d0, some (.int x1)] [] h Q) : WP 66 113 [d0, some (.int x1)] [] h Q :=
  WP.nx rfl (WP.br rfl kt kf)
theorem B66_117 {h : pm_H} {Q : Option Value → pm_H → Prop} {r0 : Nat} {d1 : Option Value} (g1 : zT h r0 = 10) (kt : (zI h r0 2) ≤ (zI h r0 3) → WP 66 160 [some (.ref r0), d1] [] h Q) (kf : ¬ (zI h r0 2) ≤ (zI h r0 3) → WP 66 128 [some (.ref r0), d1] [] h Q) : WP 66 117 [some (.ref r0), d1] [] h Q :=
  WP.nx rfl (WP.gd rfl g1 (WP.nx rfl (WP.gd rfl g1 (WP.br rfl kt kf))))
theorem B66_128 {h : pm_H} {Q : Option Value → pm_H → Prop} {r0 : Nat} {d1 : Option Value} {b2 : Nat} (g1 : zT h r0 = 10) (e3 : zR h r0 0 = some b2) (g4 : zT h b2 = 101 ∧ vp_in (zI h r0 3) (zN h b2)) (k : WP 67 0 [some (.int (zI h b2 ((zI h r0 3)).toNatClampNeg))] [] h (fun v1 h1 => WP 66 140 [some (.ref r0), d1] (v1.toList ++ []) h1 Q)) : WP 66 128 [some (.ref r0), d1] [] h Q :=
  WP.nx rfl (WP.gd rfl g1 (WP.top (congrArg va_rf e3) (WP.nx rfl (WP.gd rfl g1 (WP.gd rfl g4 (WP.cl rfl trivial k))))))
theorem B66_140 {h : pm_H} {Q : Option Value → pm_H → Prop} {r0 : Nat} {d1 : Option Value} {s0 : Int32} (g1 : zT h r0 = 10) (kt : ¬ s0 = (zI h r0 4) → WP 66 160 [some (.ref r0), d1] [] h Q) (kf : s0 = (zI h r0 4) → WP 66 147 [some (.ref r0), d1] [] h Q) : WP 66 140 [some (.ref r0), d1] [.int s0] h Q :=
  WP.nx rfl (WP.gd rfl g1 (WP.br rfl kt (fun q => kf (Decidable.not_not.mp q))))
theorem B66_147 {h : pm_H} {Q : Option Value → pm_H → Prop} {r0 : Nat} {d1 : Option Value} (g1 : zT h r0 = 10) (k : WP 66 113 [some (.ref r0), d1] [] (yI h r0 3 ((zI h r0 3) + (Int32.ofInt 1))) Q) : WP 66 147 [some (.ref r0), d1] [] h Q :=
  WP.nx rfl (WP.nx rfl (WP.gd rfl g1 (WP.nx rfl (WP.nx rfl (WP.gd rfl g1 (WP.nx rfl (k)))))))
theorem B66_160 {h : pm_H} {Q : Option Value → pm_H → Prop} {r0 : Nat} {d1 : Option Value} (g1 : zT h r0 = 10) (kt : ¬ (zI h r0 4) = (Int32.ofInt 2) → WP 66 186 [some (.ref r0), d1] [] h Q) (kf : (zI h r0 4) = (Int32.ofInt 2) → WP 66 168 [some (.ref r0), d1] [] h Q) : WP 66 160 [some (.ref r0), d1] [] h Q :=
  WP.nx rfl (WP.gd rfl g1 (WP.nx rfl (WP.br rfl kt (fun q => kf (Decidable.not_not.mp q)))))
theorem B66_168 {h : pm_H} {Q : Option Value → pm_H → Prop} {r0 : Nat} {d1 : Option Value} (g1 : zT h r0 = 10) (kt : ((zI h r0 3) - (zI h r0 5)) ≤ (Int32.ofInt 4) → WP 66 186 [some (.ref r0), d1] [] h Q) (kf : ¬ ((zI h r0 3) - (zI h r0 5)) ≤ (Int32.ofInt 4) → WP 66 181 [some (.ref r0), d1] [] h Q) : WP 66 168 [some (.ref r0), d1] [] h Q :=
  WP.nx rfl (WP.gd rfl g1 (WP.nx rfl (WP.gd rfl g1 (WP.nx rfl (WP.nx rfl (WP.br rfl kt kf))))))
theorem B66_181 {h : pm_H} {Q : Option Value → pm_H → Prop} {r0 : Nat} {d1 : Option Value} (g1 : zT h r0 = 10) (k : WP 66 186 [some (.ref r0), d1] [] (yI h r0 4 (Int32.ofInt 4)) Q) : WP 66 181 [some (.ref r0), d1] [] h Q :=
  WP.nx rfl (WP.nx rfl (WP.gd rfl g1 (k)))
theorem B66_186 {h : pm_H} {Q : Option Value → pm_H → Prop} {d0 : Option Value} {d1 : Option Value} (k : Q none h) : WP 66 186 [d0, d1] [] h Q :=
  WP.rt rfl trivial k
/-! 67 StripCloth$Tape.kindOf(I)I -/
theorem B67_0 {h : pm_H} {Q : Option Value → pm_H → Prop} {x0 : Int32} (kt : x0 < (Int32.ofInt 97) → WP 67 14 [some (.int x0)] [] h Q) (kf : ¬ x0 < (Int32.ofInt 97) → WP 67 6 [some (.int x0)] [] h Q) : WP 67 0 [some (.int x0)] [] h Q :=
  WP.nx rfl (WP.nx rfl (WP.br rfl kt kf))
theorem B67_6 {h : pm_H} {Q : Option Value → pm_H → Prop} {x0 : Int32} (kt : (Int32.ofInt 122) < x0 → WP 67 14 [some (.int x0)] [] h Q) (kf : ¬ (Int32.ofInt 122) < x0 → WP 67 12 [some (.int x0)] [] h Q) : WP 67 6 [some (.int x0)] [] h Q :=
  WP.nx rfl (WP.nx rfl (WP.br rfl kt kf))
theorem B67_12 {h : pm_H} {Q : Option Value → pm_H → Prop} {d0 : Option Value} (k : Q (some (.int (Int32.ofInt 1))) h) : WP 67 12 [d0] [] h Q :=
  WP.nx rfl (WP.rt rfl trivial k)
theorem B67_14 {h : pm_H} {Q : Option Value → pm_H → Prop} {x0 : Int32} (kt : x0 < (Int32.ofInt 48) → WP 67 28 [some (.int x0)] [] h Q) (kf : ¬ x0 < (Int32.ofInt 48) → WP 67 20 [some (.int x0)] [] h Q) : WP 67 14 [some (.int x0)] [] h Q :=
  WP.nx rfl (WP.nx rfl (WP.br rfl kt kf))
theorem B67_20 {h : pm_H} {Q : Option Value → pm_H → Prop} {x0 : Int32} (kt : (Int32.ofInt 57) < x0 → WP 67 28 [some (.int x0)] [] h Q) (kf : ¬ (Int32.ofInt 57) < x0 → WP 67 26 [some (.int x0)] [] h Q) : WP 67 20 [some (.int x0)] [] h Q :=
  WP.nx rfl (WP.nx rfl (WP.br rfl kt kf))
theorem B67_26 {h : pm_H} {Q : Option Value → pm_H → Prop} {d0 : Option Value} (k : Q (some (.int (Int32.ofInt 2))) h) : WP 67 26 [d0] [] h Q :=
  WP.nx rfl (WP.rt rfl trivial k)
theorem B67_28 {h : pm_H} {Q : Option Value → pm_H → Prop} {x0 : Int32} (k : WP 67 (pm_lsw [(10, 104), (32, 104), (40, 106), (41, 106), (43, 106), (44, 106), (58, 106), (59, 106)] 108 x0) [some (.int x0)] [] h Q) : WP 67 28 [some (.int x0)] [] h Q :=
  WP.nx rfl (WP.nx rfl (k))
theorem B67_104 {h : pm_H} {Q : Option Value → pm_H → Prop} {d0 : Option Value} (k : Q (some (.int (Int32.ofInt 5))) h) : WP 67 104 [d0] [] h Q :=
  WP.nx rfl (WP.rt rfl trivial k)
theorem B67_106 {h : pm_H} {Q : Option Value → pm_H → Prop} {d0 : Option Value} (k : Q (some (.int (Int32.ofInt 3))) h) : WP 67 106 [d0] [] h Q :=
  WP.nx rfl (WP.rt rfl trivial k)
theorem B67_108 {h : pm_H} {Q : Option Value → pm_H → Prop} {d0 : Option Value} (k : Q (some (.int (Int32.ofInt 4))) h) : WP 67 108 [d0] [] h Q :=
  WP.nx rfl (WP.rt rfl trivial k)
/-! 68 StripCloth$Tape.isWord(Ljava/lang/String;)Z -/
theorem B68_0 {h : pm_H} {Q : Option Value → pm_H → Prop} {r0 : Nat} {d1 : Option Value} {d2 : Option Value} (g1 : zT h r0 = 10) (kt : ¬ (zI h r0 4) = (Int32.ofInt 1) → WP 68 24 [some (.ref r0), d1, d2] [] h Q) (kf : (zI h r0 4) = (Int32.ofInt 1) → WP 68 8 [some (.ref r0), d1, d2] [] h Q) : WP 68 0 [some (.ref r0), d1, d2] [] h Q :=
  WP.nx rfl (WP.gd rfl g1 (WP.nx rfl (WP.br rfl kt (fun q => kf (Decidable.not_not.mp q)))))
theorem B68_8 {h : pm_H} {Q : Option Value → pm_H → Prop} {r0 : Nat} {i1 : Nat} {d2 : Option Value} (g1 : zT h r0 = 10) (g2 : i1 < 3) (kt : ((zI h r0 3) - (zI h r0 5)) = (Int32.ofInt ((pm_str i1).length)) → WP 68 26 [some (.ref r0), some (.retAddr i1), d2] [] h Q) (kf : ¬ ((zI h r0 3) - (zI h r0 5)) = (Int32.ofInt ((pm_str i1).length)) → WP 68 24 [some (.ref r0), some (.retAddr i1), d2] [] h Q) : WP 68 8 [some (.ref r0), some (.retAddr i1), d2] [] h Q :=
  WP.nx rfl (WP.gd rfl g1 (WP.nx rfl (WP.gd rfl g1 (WP.nx rfl (WP.nx rfl (WP.gd rfl g2 (WP.br rfl kt kf)))))))
theorem B68_24 {h : pm_H} {Q : Option Value → pm_H → Prop} {d0 : Option Value} {d1 : Option Value} {d2 : Option Value} (g1 : (Int32.ofInt 0) = 0 ∨ (Int32.ofInt 0) = 1) (k : Q (some (.int (Int32.ofInt 0))) h) : WP 68 24 [d0, d1, d2] [] h Q :=
  WP.nx rfl (WP.rt rfl g1 k)
theorem B68_26 {h : pm_H} {Q : Option Value → pm_H → Prop} {d0 : Option Value} {i1 : Nat} {d2 : Option Value} (k : WP 68 28 [d0, some (.retAddr i1), some (.int (Int32.ofInt 0))] [] h Q) : WP 68 26 [d0, some (.retAddr i1), d2] [] h Q :=
  WP.nx rfl (WP.nx rfl (k))
theorem B68_28 {h : pm_H} {Q : Option Value → pm_H → Prop} {d0 : Option Value} {i1 : Nat} {x2 : Int32} (g1 : i1 < 3) (kt : (Int32.ofInt ((pm_str i1).length)) ≤ x2 → WP 68 63 [d0, some (.retAddr i1), some (.int x2)] [] h Q) (kf : ¬ (Int32.ofInt ((pm_str i1).length)) ≤ x2 → WP 68 36 [d0, some (.retAddr i1), some (.int x2)] [] h Q) : WP 68 28 [d0, some (.retAddr i1), some (.int x2)] [] h Q :=
  WP.nx rfl (WP.nx rfl (WP.gd rfl g1 (WP.br rfl kt kf)))
theorem B68_36 {h : pm_H} {Q : Option Value → pm_H → Prop} {r0 : Nat} {i1 : Nat} {x2 : Int32} {b2 : Nat} (g1 : zT h r0 = 10) (e3 : zR h r0 0 = some b2) (g4 : zT h b2 = 101 ∧ vp_in ((zI h r0 5) + x2) (zN h b2)) (g5 : i1 < 3 ∧ vp_in x2 (pm_str i1).length) (kt : (zI h b2 (((zI h r0 5) + x2)).toNatClampNeg) = (Int32.ofInt ((pm_str i1).getD (x2).toNatClampNeg 0)) → WP 68 57 [some (.ref r0), some (.retAddr i1), some (.int x2)] [] h Q) (kf : ¬ (zI h b2 (((zI h r0 5) + x2)).toNatClampNeg) = (Int32.ofInt ((pm_str i1).getD (x2).toNatClampNeg 0)) → WP 68 55 [some (.ref r0), some (.retAddr i1), some (.int x2)] [] h Q) : WP 68 36 [some (.ref r0), some (.retAddr i1), some (.int x2)] [] h Q :=
  WP.nx rfl (WP.gd rfl g1 (WP.top (congrArg va_rf e3) (WP.nx rfl (WP.gd rfl g1 (WP.nx rfl (WP.nx rfl (WP.gd rfl g4 (WP.nx rfl (WP.nx rfl (WP.gd rfl g5 (WP.br rfl kt kf)))))))))))
theorem B68_55 {h : pm_H} {Q : Option Value → pm_H → Prop} {d0 : Option Value} {d1 : Option Value} {d2 : Option Value} (g1 : (Int32.ofInt 0) = 0 ∨ (Int32.ofInt 0) = 1) (k : Q (some (.int (Int32.ofInt 0))) h) : WP 68 55 [d0, d1, d2] [] h Q :=
  WP.nx rfl (WP.rt rfl g1 k)
theorem B68_57 {h : pm_H} {Q : Option Value → pm_H → Prop} {d0 : Option Value} {i1 : Nat} {x2 : Int32} (k : WP 68 28 [d0, some (.retAddr i1), some (.int (x2 + (Int32.ofInt 1)))] [] h Q) : WP 68 57 [d0, some (.retAddr i1), some (.int x2)] [] h Q :=
  WP.nx rfl (WP.nx rfl (k))
theorem B68_63 {h : pm_H} {Q : Option Value → pm_H → Prop} {d0 : Option Value} {d1 : Option Value} {d2 : Option Value} (g1 : (Int32.ofInt 1) = 0 ∨ (Int32.ofInt 1) = 1) (k : Q (some (.int (Int32.ofInt 1))) h) : WP 68 63 [d0, d1, d2] [] h Q :=
  WP.nx rfl (WP.rt rfl g1 k)
/-! 69 StripCloth$Tape.number()I -/
theorem B69_0 {h : pm_H} {Q : Option Value → pm_H → Prop} {r0 : Nat} {d1 : Option Value} {d2 : Option Value} (g1 : zT h r0 = 10) (k : WP 69 7 [some (.ref r0), some (.int (Int32.ofInt 0)), some (.int (zI h r0 5))] [] h Q) : WP 69 0 [some (.ref r0), d1, d2] [] h Q :=
  WP.nx rfl (WP.nx rfl (WP.nx rfl (WP.gd rfl g1 (WP.nx rfl (k)))))
theorem B69_7 {h : pm_H} {Q : Option Value → pm_H → Prop} {r0 : Nat} {d1 : Option Value} {x2 : Int32} (g1 : zT h r0 = 10) (kt : (zI h r0 3) ≤ x2 → WP 69 44 [some (.ref r0), d1, some (.int x2)] [] h Q) (kf : ¬ (zI h r0 3) ≤ x2 → WP 69 15 [some (.ref r0), d1, some (.int x2)] [] h Q) : WP 69 7 [some (.ref r0), d1, some (.int x2)] [] h Q :=
  WP.nx rfl (WP.nx rfl (WP.gd rfl g1 (WP.br rfl kt kf)))
theorem B69_15 {h : pm_H} {Q : Option Value → pm_H → Prop} {r0 : Nat} {d1 : Option Value} {d2 : Option Value} (g1 : zT h r0 = 10) (kt : ¬ (zI h r0 4) = (Int32.ofInt 2) → WP 69 44 [some (.ref r0), d1, d2] [] h Q) (kf : (zI h r0 4) = (Int32.ofInt 2) → WP 69 23 [some (.ref r0), d1, d2] [] h Q) : WP 69 15 [some (.ref r0), d1, d2] [] h Q :=
  WP.nx rfl (WP.gd rfl g1 (WP.nx rfl (WP.br rfl kt (fun q => kf (Decidable.not_not.mp q)))))
theorem B69_23 {h : pm_H} {Q : Option Value → pm_H → Prop} {r0 : Nat} {x1 : Int32} {x2 : Int32} {b2 : Nat} (g1 : zT h r0 = 10) (e3 : zR h r0 0 = some b2) (g4 : zT h b2 = 101 ∧ vp_in x2 (zN h b2)) (k : WP 69 7 [some (.ref r0), some (.int ((x1 * (Int32.ofInt 10)) + ((zI h b2 (x2).toNatClampNeg) - (Int32.ofInt 48)))), some (.int (x2 + (Int32.ofInt 1)))] [] h Q) : WP 69 23 [some (.ref r0), some (.int x1), some (.int x2)] [] h Q :=
  WP.nx rfl (WP.nx rfl (WP.nx rfl (WP.nx rfl (WP.gd rfl g1 (WP.top (congrArg va_rf e3) (WP.nx rfl (WP.gd rfl g4 (WP.nx rfl (WP.nx rfl (WP.nx rfl (WP.nx rfl (WP.nx rfl (WP.nx rfl (k))))))))))))))
theorem B69_44 {h : pm_H} {Q : Option Value → pm_H → Prop} {d0 : Option Value} {x1 : Int32} {d2 : Option Value} (k : Q (some (.int x1)) h) : WP 69 44 [d0, some (.int x1), d2] [] h Q :=
  WP.nx rfl (WP.rt rfl trivial k)
/-! 70 StripCloth$Tape.letter()I -/
theorem B70_0 {h : pm_H} {Q : Option Value → pm_H → Prop} {r0 : Nat} (g1 : zT h r0 = 10) (kt : ¬ (zI h r0 4) = (Int32.ofInt 1) → WP 70 23 [some (.ref r0)] [] h Q) (kf : (zI h r0 4) = (Int32.ofInt 1) → WP 70 8 [some (.ref r0)] [] h Q) : WP 70 0 [some (.ref r0)] [] h Q :=
  WP.nx rfl (WP.gd rfl g1 (WP.nx rfl (WP.br rfl kt (fun q => kf (Decidable.not_not.mp q)))))
theorem B70_8 {h : pm_H} {Q : Option Value → pm_H → Prop} {r0 : Nat} {b2 : Nat} (g1 : zT h r0 = 10) (e3 : zR h r0 0 = some b2) (g4 : zT h b2 = 101 ∧ vp_in (zI h r0 5) (zN h b2)) (k : WP 70 24 [some (.ref r0)] [.int ((zI h b2 ((zI h r0 5)).toNatClampNeg) - (Int32.ofInt 97))] h Q) : WP 70 8 [some (.ref r0)] [] h Q :=
  WP.nx rfl (WP.gd rfl g1 (WP.top (congrArg va_rf e3) (WP.nx rfl (WP.gd rfl g1 (WP.gd rfl g4 (WP.nx rfl (WP.nx rfl (WP.nx rfl (k)))))))))
theorem B70_23 {h : pm_H} {Q : Option Value → pm_H → Prop} {d0 : Option Value} (k : WP 70 24 [d0] [.int (Int32.ofInt (-1))] h Q) : WP 70 23 [d0] [] h Q :=
  WP.nx rfl (k)
theorem B70_24 {h : pm_H} {Q : Option Value → pm_H → Prop} {d0 : Option Value} {s0 : Int32} (k : Q (some (.int s0)) h) : WP 70 24 [d0] [.int s0] h Q :=
  WP.rt rfl trivial k
/-! 71 StripCloth$Tape.isName()Z -/
theorem B71_0 {h : pm_H} {Q : Option Value → pm_H → Prop} {r0 : Nat} (g1 : zT h r0 = 10) (kt : ¬ (zI h r0 4) = (Int32.ofInt 1) → WP 71 25 [some (.ref r0)] [] h Q) (kf : (zI h r0 4) = (Int32.ofInt 1) → WP 71 8 [some (.ref r0)] [] h Q) : WP 71 0 [some (.ref r0)] [] h Q :=
  WP.nx rfl (WP.gd rfl g1 (WP.nx rfl (WP.br rfl kt (fun q => kf (Decidable.not_not.mp q)))))
theorem B71_8 {h : pm_H} {Q : Option Value → pm_H → Prop} {r0 : Nat} (g1 : zT h r0 = 10) (kt : ¬ ((zI h r0 3) - (zI h r0 5)) = (Int32.ofInt 1) → WP 71 25 [some (.ref r0)] [] h Q) (kf : ((zI h r0 3) - (zI h r0 5)) = (Int32.ofInt 1) → WP 71 21 [some (.ref r0)] [] h Q) : WP 71 8 [some (.ref r0)] [] h Q :=
  WP.nx rfl (WP.gd rfl g1 (WP.nx rfl (WP.gd rfl g1 (WP.nx rfl (WP.nx rfl (WP.br rfl kt (fun q => kf (Decidable.not_not.mp q))))))))
theorem B71_21 {h : pm_H} {Q : Option Value → pm_H → Prop} {d0 : Option Value} (k : WP 71 26 [d0] [.int (Int32.ofInt 1)] h Q) : WP 71 21 [d0] [] h Q :=
  WP.nx rfl (WP.nx rfl (k))
theorem B71_25 {h : pm_H} {Q : Option Value → pm_H → Prop} {d0 : Option Value} (k : WP 71 26 [d0] [.int (Int32.ofInt 0)] h Q) : WP 71 25 [d0] [] h Q :=
  WP.nx rfl (k)
theorem B71_26 {h : pm_H} {Q : Option Value → pm_H → Prop} {d0 : Option Value} {s0 : Int32} (g1 : s0 = 0 ∨ s0 = 1) (k : Q (some (.int s0)) h) : WP 71 26 [d0] [.int s0] h Q :=
  WP.rt rfl g1 k
/-! 72 StripCloth$Tape.isName()Z -/
theorem B72_0 {h : pm_H} {Q : Option Value → pm_H → Prop} {r0 : Nat} (g1 : zT h r0 = 10) (kt : ¬ (zI h r0 4) = (Int32.ofInt 1) → WP 72 25 [some (.ref r0)] [] h Q) (kf : (zI h r0 4) = (Int32.ofInt 1) → WP 72 8 [some (.ref r0)] [] h Q) : WP 72 0 [some (.ref r0)] [] h Q :=
  WP.nx rfl (WP.gd rfl g1 (WP.nx rfl (WP.br rfl kt (fun q => kf (Decidable.not_not.mp q)))))
theorem B72_8 {h : pm_H} {Q : Option Value → pm_H → Prop} {r0 : Nat} (g1 : zT h r0 = 10) (kt : ¬ ((zI h r0 3) - (zI h r0 5)) = (Int32.ofInt 1) → WP 72 25 [some (.ref r0)] [] h Q) (kf : ((zI h r0 3) - (zI h r0 5)) = (Int32.ofInt 1) → WP 72 21 [some (.ref r0)] [] h Q) : WP 72 8 [some (.ref r0)] [] h Q :=
  WP.nx rfl (WP.gd rfl g1 (WP.nx rfl (WP.gd rfl g1 (WP.nx rfl (WP.nx rfl (WP.br rfl kt (fun q => kf (Decidable.not_not.mp q))))))))
theorem B72_21 {h : pm_H} {Q : Option Value → pm_H → Prop} {d0 : Option Value} (k : WP 72 26 [d0] [.int (Int32.ofInt 1)] h Q) : WP 72 21 [d0] [] h Q :=
  WP.nx rfl (WP.nx rfl (k))
theorem B72_25 {h : pm_H} {Q : Option Value → pm_H → Prop} {d0 : Option Value} (k : WP 72 26 [d0] [.int (Int32.ofInt 0)] h Q) : WP 72 25 [d0] [] h Q :=
  WP.nx rfl (k)
theorem B72_26 {h : pm_H} {Q : Option Value → pm_H → Prop} {d0 : Option Value} {s0 : Int32} (g1 : s0 = 0 ∨ s0 = 1) (k : Q (some (.int s0)) h) : WP 72 26 [d0] [.int s0] h Q :=
  WP.rt rfl g1 k
/-! 73 StripCloth$Tape.isSign(I)Z -/
theorem B73_0 {h : pm_H} {Q : Option Value → pm_H → Prop} {r0 : Nat} {d1 : Option Value} (g1 : zT h r0 = 10) (kt : ¬ (zI h r0 4) = (Int32.ofInt 3) → WP 73 25 [some (.ref r0), d1] [] h Q) (kf : (zI h r0 4) = (Int32.ofInt 3) → WP 73 8 [some (.ref r0), d1] [] h Q) : WP 73 0 [some (.ref r0), d1] [] h Q :=
  WP.nx rfl (WP.gd rfl g1 (WP.nx rfl (WP.br rfl kt (fun q => kf (Decidable.not_not.mp q)))))
theorem B73_8 {h : pm_H} {Q : Option Value → pm_H → Prop} {r0 : Nat} {x1 : Int32} {b2 : Nat} (g1 : zT h r0 = 10) (e3 : zR h r0 0 = some b2) (g4 : zT h b2 = 101 ∧ vp_in (zI h r0 5) (zN h b2)) (kt : ¬ (zI h b2 ((zI h r0 5)).toNatClampNeg) = x1 → WP 73 25 [some (.ref r0), some (.int x1)] [] h Q) (kf : (zI h b2 ((zI h r0 5)).toNatClampNeg) = x1 → WP 73 21 [some (.ref r0), some (.int x1)] [] h Q) : WP 73 8 [some (.ref r0), some (.int x1)] [] h Q :=
  WP.nx rfl (WP.gd rfl g1 (WP.top (congrArg va_rf e3) (WP.nx rfl (WP.gd rfl g1 (WP.gd rfl g4 (WP.nx rfl (WP.br rfl kt (fun q => kf (Decidable.not_not.mp q)))))))))
theorem B73_21 {h : pm_H} {Q : Option Value → pm_H → Prop} {d0 : Option Value} {d1 : Option Value} (k : WP 73 26 [d0, d1] [.int (Int32.ofInt 1)] h Q) : WP 73 21 [d0, d1] [] h Q :=
  WP.nx rfl (WP.nx rfl (k))
theorem B73_25 {h : pm_H} {Q : Option Value → pm_H → Prop} {d0 : Option Value} {d1 : Option Value} (k : WP 73 26 [d0, d1] [.int (Int32.ofInt 0)] h Q) : WP 73 25 [d0, d1] [] h Q :=
  WP.nx rfl (k)
theorem B73_26 {h : pm_H} {Q : Option Value → pm_H → Prop} {d0 : Option Value} {d1 : Option Value} {s0 : Int32} (g1 : s0 = 0 ∨ s0 = 1) (k : Q (some (.int s0)) h) : WP 73 26 [d0, d1] [.int s0] h Q :=
  WP.rt rfl g1 k
/-! 74 StripCloth$Tape.isName()Z -/
theorem B74_0 {h : pm_H} {Q : Option Value → pm_H → Prop} {r0 : Nat} (g1 : zT h r0 = 10) (kt : ¬ (zI h r0 4) = (Int32.ofInt 1) → WP 74 25 [some (.ref r0)] [] h Q) (kf : (zI h r0 4) = (Int32.ofInt 1) → WP 74 8 [some (.ref r0)] [] h Q) : WP 74 0 [some (.ref r0)] [] h Q :=
  WP.nx rfl (WP.gd rfl g1 (WP.nx rfl (WP.br rfl kt (fun q => kf (Decidable.not_not.mp q)))))
theorem B74_8 {h : pm_H} {Q : Option Value → pm_H → Prop} {r0 : Nat} (g1 : zT h r0 = 10) (kt : ¬ ((zI h r0 3) - (zI h r0 5)) = (Int32.ofInt 1) → WP 74 25 [some (.ref r0)] [] h Q) (kf : ((zI h r0 3) - (zI h r0 5)) = (Int32.ofInt 1) → WP 74 21 [some (.ref r0)] [] h Q) : WP 74 8 [some (.ref r0)] [] h Q :=
  WP.nx rfl (WP.gd rfl g1 (WP.nx rfl (WP.gd rfl g1 (WP.nx rfl (WP.nx rfl (WP.br rfl kt (fun q => kf (Decidable.not_not.mp q))))))))
theorem B74_21 {h : pm_H} {Q : Option Value → pm_H → Prop} {d0 : Option Value} (k : WP 74 26 [d0] [.int (Int32.ofInt 1)] h Q) : WP 74 21 [d0] [] h Q :=
  WP.nx rfl (WP.nx rfl (k))
theorem B74_25 {h : pm_H} {Q : Option Value → pm_H → Prop} {d0 : Option Value} (k : WP 74 26 [d0] [.int (Int32.ofInt 0)] h Q) : WP 74 25 [d0] [] h Q :=
  WP.nx rfl (k)
theorem B74_26 {h : pm_H} {Q : Option Value → pm_H → Prop} {d0 : Option Value} {s0 : Int32} (g1 : s0 = 0 ∨ s0 = 1) (k : Q (some (.int s0)) h) : WP 74 26 [d0] [.int s0] h Q :=
  WP.rt rfl g1 k
/-! 75 StripCloth$Tape.isName()Z -/
theorem B75_0 {h : pm_H} {Q : Option Value → pm_H → Prop} {r0 : Nat} (g1 : zT h r0 = 10) (kt : ¬ (zI h r0 4) = (Int32.ofInt 1) → WP 75 25 [some (.ref r0)] [] h Q) (kf : (zI h r0 4) = (Int32.ofInt 1) → WP 75 8 [some (.ref r0)] [] h Q) : WP 75 0 [some (.ref r0)] [] h Q :=
  WP.nx rfl (WP.gd rfl g1 (WP.nx rfl (WP.br rfl kt (fun q => kf (Decidable.not_not.mp q)))))
theorem B75_8 {h : pm_H} {Q : Option Value → pm_H → Prop} {r0 : Nat} (g1 : zT h r0 = 10) (kt : ¬ ((zI h r0 3) - (zI h r0 5)) = (Int32.ofInt 1) → WP 75 25 [some (.ref r0)] [] h Q) (kf : ((zI h r0 3) - (zI h r0 5)) = (Int32.ofInt 1) → WP 75 21 [some (.ref r0)] [] h Q) : WP 75 8 [some (.ref r0)] [] h Q :=
  WP.nx rfl (WP.gd rfl g1 (WP.nx rfl (WP.gd rfl g1 (WP.nx rfl (WP.nx rfl (WP.br rfl kt (fun q => kf (Decidable.not_not.mp q))))))))
theorem B75_21 {h : pm_H} {Q : Option Value → pm_H → Prop} {d0 : Option Value} (k : WP 75 26 [d0] [.int (Int32.ofInt 1)] h Q) : WP 75 21 [d0] [] h Q :=
  WP.nx rfl (WP.nx rfl (k))
theorem B75_25 {h : pm_H} {Q : Option Value → pm_H → Prop} {d0 : Option Value} (k : WP 75 26 [d0] [.int (Int32.ofInt 0)] h Q) : WP 75 25 [d0] [] h Q :=
  WP.nx rfl (k)
theorem B75_26 {h : pm_H} {Q : Option Value → pm_H → Prop} {d0 : Option Value} {s0 : Int32} (g1 : s0 = 0 ∨ s0 = 1) (k : Q (some (.int s0)) h) : WP 75 26 [d0] [.int s0] h Q :=
  WP.rt rfl g1 k
/-! 76 StripCloth$Tape.isColour()Z -/
theorem B76_0 {h : pm_H} {Q : Option Value → pm_H → Prop} {r0 : Nat} (g1 : zT h r0 = 10) (k : WP 75 0 [some (.ref r0)] [] h (fun v1 h1 => WP 76 4 [some (.ref r0)] (v1.toList ++ []) h1 Q)) : WP 76 0 [some (.ref r0)] [] h Q :=
  WP.nx rfl (WP.cl rfl g1 k)
theorem B76_4 {h : pm_H} {Q : Option Value → pm_H → Prop} {d0 : Option Value} {s0 : Int32} (kt : s0 = 0 → WP 76 20 [d0] [] h Q) (kf : ¬ s0 = 0 → WP 76 7 [d0] [] h Q) : WP 76 4 [d0] [.int s0] h Q :=
  WP.br rfl kt kf
theorem B76_7 {h : pm_H} {Q : Option Value → pm_H → Prop} {r0 : Nat} (g1 : zT h r0 = 10) (k : WP 70 0 [some (.ref r0)] [] h (fun v1 h1 => WP 76 11 [some (.ref r0)] (v1.toList ++ []) h1 Q)) : WP 76 7 [some (.ref r0)] [] h Q :=
  WP.nx rfl (WP.cl rfl g1 k)
theorem B76_11 {h : pm_H} {Q : Option Value → pm_H → Prop} {d0 : Option Value} {s0 : Int32} (kt : (Int32.ofInt 8) ≤ s0 → WP 76 20 [d0] [] h Q) (kf : ¬ (Int32.ofInt 8) ≤ s0 → WP 76 16 [d0] [] h Q) : WP 76 11 [d0] [.int s0] h Q :=
  WP.nx rfl (WP.br rfl kt kf)
theorem B76_16 {h : pm_H} {Q : Option Value → pm_H → Prop} {d0 : Option Value} (k : WP 76 21 [d0] [.int (Int32.ofInt 1)] h Q) : WP 76 16 [d0] [] h Q :=
  WP.nx rfl (WP.nx rfl (k))
theorem B76_20 {h : pm_H} {Q : Option Value → pm_H → Prop} {d0 : Option Value} (k : WP 76 21 [d0] [.int (Int32.ofInt 0)] h Q) : WP 76 20 [d0] [] h Q :=
  WP.nx rfl (k)
theorem B76_21 {h : pm_H} {Q : Option Value → pm_H → Prop} {d0 : Option Value} {s0 : Int32} (g1 : s0 = 0 ∨ s0 = 1) (k : Q (some (.int s0)) h) : WP 76 21 [d0] [.int s0] h Q :=
  WP.rt rfl g1 k
/-! 77 StripCloth$Weave.<init>()V -/
theorem B77_0 {h : pm_H} {Q : Option Value → pm_H → Prop} {r0 : Nat} (g1 : ¬ (Int32.ofInt 400) < 0 ∧ ((Int32.ofInt 400)).toNatClampNeg ≤ 100000) (g2 : zT (yN h 101 ((Int32.ofInt 400)).toNatClampNeg ((Int32.ofInt 400)).toNatClampNeg) r0 = 11) (k : WP 77 13 [some (.ref r0)] [] (yR (yN h 101 ((Int32.ofInt 400)).toNatClampNeg ((Int32.ofInt 400)).toNatClampNeg) r0 0 (some (zn h))) Q) : WP 77 0 [some (.ref r0)] [] h Q :=
  WP.nx rfl (WP.nx rfl (WP.nx rfl (WP.nx rfl (WP.gd rfl g1 (WP.gd rfl g2 (k))))))
theorem B77_13 {h : pm_H} {Q : Option Value → pm_H → Prop} {r0 : Nat} (g1 : zT h r0 = 11) (g2 : ¬ (Int32.ofInt 8) < 0 ∧ ((Int32.ofInt 8)).toNatClampNeg ≤ 100000) (g3 : zT (yN (yI h r0 1 (Int32.ofInt 0)) 100 ((Int32.ofInt 8)).toNatClampNeg ((Int32.ofInt 8)).toNatClampNeg) r0 = 11) (k : WP 77 26 [some (.ref r0)] [] (yR (yN (yI h r0 1 (Int32.ofInt 0)) 100 ((Int32.ofInt 8)).toNatClampNeg ((Int32.ofInt 8)).toNatClampNeg) r0 2 (some (zn h))) Q) : WP 77 13 [some (.ref r0)] [] h Q :=
  WP.nx rfl (WP.nx rfl (WP.gd rfl g1 (WP.nx rfl (WP.nx rfl (WP.gd rfl g2 (WP.gd rfl g3 (k)))))))
theorem B77_26 {h : pm_H} {Q : Option Value → pm_H → Prop} {r0 : Nat} (g1 : ¬ (Int32.ofInt 8) < 0 ∧ ((Int32.ofInt 8)).toNatClampNeg ≤ 100000) (g2 : zT (yN h 100 ((Int32.ofInt 8)).toNatClampNeg ((Int32.ofInt 8)).toNatClampNeg) r0 = 11) (k : WP 77 34 [some (.ref r0)] [] (yR (yN h 100 ((Int32.ofInt 8)).toNatClampNeg ((Int32.ofInt 8)).toNatClampNeg) r0 3 (some (zn h))) Q) : WP 77 26 [some (.ref r0)] [] h Q :=
  WP.nx rfl (WP.nx rfl (WP.gd rfl g1 (WP.gd rfl g2 (k))))
theorem B77_34 {h : pm_H} {Q : Option Value → pm_H → Prop} {r0 : Nat} (g1 : zT h r0 = 11) (k : Q none (yI h r0 4 (Int32.ofInt 0))) : WP 77 34 [some (.ref r0)] [] h Q :=
  WP.nx rfl (WP.nx rfl (WP.gd rfl g1 (WP.rt rfl trivial k)))
/-! 78 StripCloth$Weave.begin()V -/
theorem B78_0 {h : pm_H} {Q : Option Value → pm_H → Prop} {r0 : Nat} (g1 : zT h r0 = 11) (k : Q none (yI (yI h r0 1 (Int32.ofInt 0)) r0 4 (Int32.ofInt 0))) : WP 78 0 [some (.ref r0)] [] h Q :=
  WP.nx rfl (WP.nx rfl (WP.gd rfl g1 (WP.nx rfl (WP.nx rfl (WP.gd rfl g1 (WP.rt rfl trivial k))))))
/-! 79 StripCloth$Weave.add(II)Z -/
theorem B79_0 {h : pm_H} {Q : Option Value → pm_H → Prop} {d0 : Option Value} {d1 : Option Value} {x2 : Int32} {d3 : Option Value} (kt : x2 < 0 → WP 79 18 [d0, d1, some (.int x2), d3] [] h Q) (kf : ¬ x2 < 0 → WP 79 4 [d0, d1, some (.int x2), d3] [] h Q) : WP 79 0 [d0, d1, some (.int x2), d3] [] h Q :=
  WP.nx rfl (WP.br rfl kt kf)
theorem B79_4 {h : pm_H} {Q : Option Value → pm_H → Prop} {r0 : Nat} {d1 : Option Value} {x2 : Int32} {d3 : Option Value} {b2 : Nat} (g1 : zT h r0 = 11) (e3 : zR h r0 0 = some b2) (g4 : 100 ≤ zT h b2 ∧ zT h b2 ≤ 105) (kt : x2 ≤ ((Int32.ofInt (zN h b2)) - (zI h r0 1)) → WP 79 20 [some (.ref r0), d1, some (.int x2), d3] [] h Q) (kf : ¬ x2 ≤ ((Int32.ofInt (zN h b2)) - (zI h r0 1)) → WP 79 18 [some (.ref r0), d1, some (.int x2), d3] [] h Q) : WP 79 4 [some (.ref r0), d1, some (.int x2), d3] [] h Q :=
  WP.nx rfl (WP.nx rfl (WP.gd rfl g1 (WP.top (congrArg va_rf e3) (WP.gd rfl g4 (WP.nx rfl (WP.gd rfl g1 (WP.nx rfl (WP.br rfl kt kf))))))))
theorem B79_18 {h : pm_H} {Q : Option Value → pm_H → Prop} {d0 : Option Value} {d1 : Option Value} {d2 : Option Value} {d3 : Option Value} (g1 : (Int32.ofInt 0) = 0 ∨ (Int32.ofInt 0) = 1) (k : Q (some (.int (Int32.ofInt 0))) h) : WP 79 18 [d0, d1, d2, d3] [] h Q :=
  WP.nx rfl (WP.rt rfl g1 k)
theorem B79_20 {h : pm_H} {Q : Option Value → pm_H → Prop} {d0 : Option Value} {d1 : Option Value} {x2 : Int32} {d3 : Option Value} (k : WP 79 22 [d0, d1, some (.int x2), some (.int (Int32.ofInt 0))] [] h Q) : WP 79 20 [d0, d1, some (.int x2), d3] [] h Q :=
  WP.nx rfl (WP.nx rfl (k))
theorem B79_22 {h : pm_H} {Q : Option Value → pm_H → Prop} {d0 : Option Value} {d1 : Option Value} {x2 : Int32} {x3 : Int32} (kt : x2 ≤ x3 → WP 79 46 [d0, d1, some (.int x2), some (.int x3)] [] h Q) (kf : ¬ x2 ≤ x3 → WP 79 27 [d0, d1, some (.int x2), some (.int x3)] [] h Q) : WP 79 22 [d0, d1, some (.int x2), some (.int x3)] [] h Q :=
  WP.nx rfl (WP.nx rfl (WP.br rfl kt kf))
theorem B79_27 {h : pm_H} {Q : Option Value → pm_H → Prop} {r0 : Nat} {x1 : Int32} {x2 : Int32} {x3 : Int32} {b2 : Nat} (g1 : zT h r0 = 11) (e3 : zR h r0 0 = some b2) (g4 : zT h b2 = 101 ∧ vp_in ((zI h r0 1) + x3) (zN h b2)) (k : WP 79 22 [some (.ref r0), some (.int x1), some (.int x2), some (.int (x3 + (Int32.ofInt 1)))] [] (yI h b2 (((zI h r0 1) + x3)).toNatClampNeg (x1).toInt8.toInt32.toInt8.toInt32) Q) : WP 79 27 [some (.ref r0), some (.int x1), some (.int x2), some (.int x3)] [] h Q :=
  WP.nx rfl (WP.gd rfl g1 (WP.top (congrArg va_rf e3) (WP.nx rfl (WP.gd rfl g1 (WP.nx rfl (WP.nx rfl (WP.nx rfl (WP.nx rfl (WP.gd rfl g4 (WP.nx rfl (WP.nx rfl (k))))))))))))
theorem B79_46 {h : pm_H} {Q : Option Value → pm_H → Prop} {r0 : Nat} {d1 : Option Value} {x2 : Int32} {d3 : Option Value} (g1 : zT h r0 = 11) (g2 : (Int32.ofInt 1) = 0 ∨ (Int32.ofInt 1) = 1) (k : Q (some (.int (Int32.ofInt 1))) (yI h r0 1 ((zI h r0 1) + x2))) : WP 79 46 [some (.ref r0), d1, some (.int x2), d3] [] h Q :=
  WP.nx rfl (WP.nx rfl (WP.gd rfl g1 (WP.nx rfl (WP.nx rfl (WP.gd rfl g1 (WP.nx rfl (WP.rt rfl g2 k)))))))
/-! 80 StripCloth$Weave.open(I)Z -/
theorem B80_0 {h : pm_H} {Q : Option Value → pm_H → Prop} {r0 : Nat} {d1 : Option Value} {b2 : Nat} (g1 : zT h r0 = 11) (e3 : zR h r0 2 = some b2) (g4 : 100 ≤ zT h b2 ∧ zT h b2 ≤ 105) (kt : (zI h r0 4) < (Int32.ofInt (zN h b2)) → WP 80 14 [some (.ref r0), d1] [] h Q) (kf : ¬ (zI h r0 4) < (Int32.ofInt (zN h b2)) → WP 80 12 [some (.ref r0), d1] [] h Q) : WP 80 0 [some (.ref r0), d1] [] h Q :=
  WP.nx rfl (WP.gd rfl g1 (WP.nx rfl (WP.gd rfl g1 (WP.top (congrArg va_rf e3) (WP.gd rfl g4 (WP.br rfl kt kf))))))
theorem B80_12 {h : pm_H} {Q : Option Value → pm_H → Prop} {d0 : Option Value} {d1 : Option Value} (g1 : (Int32.ofInt 0) = 0 ∨ (Int32.ofInt 0) = 1) (k : Q (some (.int (Int32.ofInt 0))) h) : WP 80 12 [d0, d1] [] h Q :=
  WP.nx rfl (WP.rt rfl g1 k)
theorem B80_14 {h : pm_H} {Q : Option Value → pm_H → Prop} {r0 : Nat} {x1 : Int32} {b2 : Nat} {b5 : Nat} (g1 : zT h r0 = 11) (e3 : zR h r0 2 = some b2) (g4 : zT h b2 = 100 ∧ vp_in (zI h r0 4) (zN h b2)) (e6 : zR h r0 3 = some b5) (g7 : zT h b5 = 100 ∧ vp_in (zI (yI h b2 ((zI h r0 4)).toNatClampNeg (zI h r0 1)) r0 4) (zN h b5)) (g8 : (Int32.ofInt 1) = 0 ∨ (Int32.ofInt 1) = 1) (k : Q (some (.int (Int32.ofInt 1))) (yI (yI (yI h b2 ((zI h r0 4)).toNatClampNeg (zI h r0 1)) b5 ((zI (yI h b2 ((zI h r0 4)).toNatClampNeg (zI h r0 1)) r0 4)).toNatClampNeg x1) r0 4 ((zI (yI (yI h b2 ((zI h r0 4)).toNatClampNeg (zI h r0 1)) b5 ((zI (yI h b2 ((zI h r0 4)).toNatClampNeg (zI h r0 1)) r0 4)).toNatClampNeg x1) r0 4) + (Int32.ofInt 1)))) : WP 80 14 [some (.ref r0), some (.int x1)] [] h Q :=
  WP.nx rfl (WP.gd rfl g1 (WP.top (congrArg va_rf e3) (WP.nx rfl (WP.gd rfl g1 (WP.nx rfl (WP.gd rfl g1 (WP.gd rfl g4 (WP.nx rfl (WP.gd rfl g1 (WP.top (congrArg va_rf e6) (WP.nx rfl (WP.gd rfl g1 (WP.nx rfl (WP.gd rfl g7 (WP.nx rfl (WP.nx rfl (WP.gd rfl g1 (WP.nx rfl (WP.nx rfl (WP.gd rfl g1 (WP.nx rfl (WP.rt rfl g8 k))))))))))))))))))))))
/-! 81 StripCloth$Weave.close()Z -/
theorem B81_0 {h : pm_H} {Q : Option Value → pm_H → Prop} {r0 : Nat} (g1 : zT h r0 = 11) (kt : 0 < (zI h r0 4) → WP 81 9 [some (.ref r0)] [] h Q) (kf : ¬ 0 < (zI h r0 4) → WP 81 7 [some (.ref r0)] [] h Q) : WP 81 0 [some (.ref r0)] [] h Q :=
  WP.nx rfl (WP.gd rfl g1 (WP.br rfl kt kf))
theorem B81_7 {h : pm_H} {Q : Option Value → pm_H → Prop} {d0 : Option Value} (g1 : (Int32.ofInt 0) = 0 ∨ (Int32.ofInt 0) = 1) (k : Q (some (.int (Int32.ofInt 0))) h) : WP 81 7 [d0] [] h Q :=
  WP.nx rfl (WP.rt rfl g1 k)
theorem B81_9 {h : pm_H} {Q : Option Value → pm_H → Prop} {r0 : Nat} {b2 : Nat} (g1 : zT h r0 = 11) (e3 : zR h r0 3 = some b2) (g4 : zT h b2 = 100 ∧ vp_in (zI (yI h r0 4 ((zI h r0 4) - (Int32.ofInt 1))) r0 4) (zN h b2)) (kt : ¬ (zI (yI h r0 4 ((zI h r0 4) - (Int32.ofInt 1))) b2 ((zI (yI h r0 4 ((zI h r0 4) - (Int32.ofInt 1))) r0 4)).toNatClampNeg) = 0 → WP 81 46 [some (.ref r0)] [] (yI h r0 4 ((zI h r0 4) - (Int32.ofInt 1))) Q) (kf : (zI (yI h r0 4 ((zI h r0 4) - (Int32.ofInt 1))) b2 ((zI (yI h r0 4 ((zI h r0 4) - (Int32.ofInt 1))) r0 4)).toNatClampNeg) = 0 → WP 81 31 [some (.ref r0)] [] (yI h r0 4 ((zI h r0 4) - (Int32.ofInt 1))) Q) : WP 81 9 [some (.ref r0)] [] h Q :=
  WP.nx rfl (WP.nx rfl (WP.gd rfl g1 (WP.nx rfl (WP.nx rfl (WP.gd rfl g1 (WP.nx rfl (WP.gd rfl g1 (WP.top (congrArg va_rf e3) (WP.nx rfl (WP.gd rfl g1 (WP.gd rfl g4 (WP.br rfl kt (fun q => kf (Decidable.not_not.mp q))))))))))))))
theorem B81_31 {h : pm_H} {Q : Option Value → pm_H → Prop} {r0 : Nat} {b2 : Nat} (g1 : zT h r0 = 11) (e3 : zR h r0 2 = some b2) (g4 : zT h b2 = 100 ∧ vp_in (zI h r0 4) (zN h b2)) (k : WP 82 0 [some (.ref r0), some (.int (zI h b2 ((zI h r0 4)).toNatClampNeg)), none, none, none] [] h (fun v1 h1 => WP 81 44 [some (.ref r0)] (v1.toList ++ []) h1 Q)) : WP 81 31 [some (.ref r0)] [] h Q :=
  WP.nx rfl (WP.nx rfl (WP.gd rfl g1 (WP.top (congrArg va_rf e3) (WP.nx rfl (WP.gd rfl g1 (WP.gd rfl g4 (WP.cl rfl g1 k)))))))
theorem B81_44 {h : pm_H} {Q : Option Value → pm_H → Prop} {d0 : Option Value} (g1 : (Int32.ofInt 1) = 0 ∨ (Int32.ofInt 1) = 1) (k : Q (some (.int (Int32.ofInt 1))) h) : WP 81 44 [d0] [] h Q :=
  WP.nx rfl (WP.rt rfl g1 k)
theorem B81_46 {h : pm_H} {Q : Option Value → pm_H → Prop} {r0 : Nat} {b2 : Nat} {b5 : Nat} (g1 : zT h r0 = 11) (e3 : zR h r0 2 = some b2) (g4 : zT h b2 = 100 ∧ vp_in (zI h r0 4) (zN h b2)) (e6 : zR h r0 3 = some b5) (g7 : zT h b5 = 100 ∧ vp_in (zI h r0 4) (zN h b5)) (k : WP 83 0 [some (.ref r0), some (.int (zI h b2 ((zI h r0 4)).toNatClampNeg)), some (.int (zI h b5 ((zI h r0 4)).toNatClampNeg)), none, none, none] [] h (fun v1 h1 => WP 81 68 [some (.ref r0)] (v1.toList ++ []) h1 Q)) : WP 81 46 [some (.ref r0)] [] h Q :=
  WP.nx rfl (WP.nx rfl (WP.gd rfl g1 (WP.top (congrArg va_rf e3) (WP.nx rfl (WP.gd rfl g1 (WP.gd rfl g4 (WP.nx rfl (WP.gd rfl g1 (WP.top (congrArg va_rf e6) (WP.nx rfl (WP.gd rfl g1 (WP.gd rfl g7 (WP.cl rfl g1 k)))))))))))))
theorem B81_68 {h : pm_H} {Q : Option Value → pm_H → Prop} {d0 : Option Value} {s0 : Int32} (g1 : s0 = 0 ∨ s0 = 1) (k : Q (some (.int s0)) h) : WP 81 68 [d0] [.int s0] h Q :=
  WP.rt rfl g1 k
/-! 82 StripCloth$Weave.turnFrom(I)V -/
theorem B82_0 {h : pm_H} {Q : Option Value → pm_H → Prop} {r0 : Nat} {x1 : Int32} {d2 : Option Value} {d3 : Option Value} {d4 : Option Value} (g1 : zT h r0 = 11) (k : WP 82 9 [some (.ref r0), some (.int x1), some (.int ((zI h r0 1) - (Int32.ofInt 1))), some (.int x1), d4] [] h Q) : WP 82 0 [some (.ref r0), some (.int x1), d2, d3, d4] [] h Q :=
  WP.nx rfl (WP.gd rfl g1 (WP.nx rfl (WP.nx rfl (WP.nx rfl (WP.nx rfl (WP.nx rfl (k)))))))
theorem B82_9 {h : pm_H} {Q : Option Value → pm_H → Prop} {d0 : Option Value} {d1 : Option Value} {x2 : Int32} {x3 : Int32} {d4 : Option Value} (kt : x2 ≤ x3 → WP 82 51 [d0, d1, some (.int x2), some (.int x3), d4] [] h Q) (kf : ¬ x2 ≤ x3 → WP 82 14 [d0, d1, some (.int x2), some (.int x3), d4] [] h Q) : WP 82 9 [d0, d1, some (.int x2), some (.int x3), d4] [] h Q :=
  WP.nx rfl (WP.nx rfl (WP.br rfl kt kf))
theorem B82_14 {h : pm_H} {Q : Option Value → pm_H → Prop} {r0 : Nat} {x1 : Int32} {x2 : Int32} {x3 : Int32} {d4 : Option Value} {b2 : Nat} (g1 : zT h r0 = 11) (e3 : zR h r0 0 = some b2) (g4 : zT h b2 = 101 ∧ vp_in x3 (zN h b2)) (g5 : zT h b2 = 101 ∧ vp_in x2 (zN h b2)) (k : WP 82 9 [some (.ref r0), some (.int x1), some (.int (x2 + (Int32.ofInt (-1)))), some (.int (x3 + (Int32.ofInt 1))), some (.int (zI h b2 (x3).toNatClampNeg))] [] (yI (yI h b2 (x3).toNatClampNeg (zI h b2 (x2).toNatClampNeg).toInt8.toInt32) b2 (x2).toNatClampNeg (zI h b2 (x3).toNatClampNeg).toInt8.toInt32) Q) : WP 82 14 [some (.ref r0), some (.int x1), some (.int x2), some (.int x3), d4] [] h Q :=
  WP.nx rfl (WP.gd rfl g1 (WP.top (congrArg va_rf e3) (WP.nx rfl (WP.gd rfl g4 (WP.nx rfl (WP.nx rfl (WP.gd rfl g1 (WP.top (congrArg va_rf e3) (WP.nx rfl (WP.nx rfl (WP.gd rfl g1 (WP.top (congrArg va_rf e3) (WP.nx rfl (WP.gd rfl g5 (WP.gd rfl g4 (WP.nx rfl (WP.gd rfl g1 (WP.top (congrArg va_rf e3) (WP.nx rfl (WP.nx rfl (WP.gd rfl g5 (WP.nx rfl (WP.nx rfl (WP.nx rfl (k)))))))))))))))))))))))))
theorem B82_51 {h : pm_H} {Q : Option Value → pm_H → Prop} {d0 : Option Value} {d1 : Option Value} {d2 : Option Value} {d3 : Option Value} {d4 : Option Value} (k : Q none h) : WP 82 51 [d0, d1, d2, d3, d4] [] h Q :=
  WP.rt rfl trivial k
/-! 83 StripCloth$Weave.repeatFrom(II)Z -/
theorem B83_0 {h : pm_H} {Q : Option Value → pm_H → Prop} {r0 : Nat} {x1 : Int32} {x2 : Int32} {d3 : Option Value} {d4 : Option Value} {d5 : Option Value} {b2 : Nat} (g1 : zT h r0 = 11) (e3 : zR h r0 0 = some b2) (g4 : 100 ≤ zT h b2 ∧ zT h b2 ≤ 105) (kt : (x1 + (((zI h r0 1) - x1) * x2)) ≤ (Int32.ofInt (zN h b2)) → WP 83 26 [some (.ref r0), some (.int x1), some (.int x2), some (.int ((zI h r0 1) - x1)), some (.int (x1 + (((zI h r0 1) - x1) * x2))), d5] [] h Q) (kf : ¬ (x1 + (((zI h r0 1) - x1) * x2)) ≤ (Int32.ofInt (zN h b2)) → WP 83 24 [some (.ref r0), some (.int x1), some (.int x2), some (.int ((zI h r0 1) - x1)), some (.int (x1 + (((zI h r0 1) - x1) * x2))), d5] [] h Q) : WP 83 0 [some (.ref r0), some (.int x1), some (.int x2), d3, d4, d5] [] h Q :=
  WP.nx rfl (WP.gd rfl g1 (WP.nx rfl (WP.nx rfl (WP.nx rfl (WP.nx rfl (WP.nx rfl (WP.nx rfl (WP.nx rfl (WP.nx rfl (WP.nx rfl (WP.nx rfl (WP.nx rfl (WP.gd rfl g1 (WP.top (congrArg va_rf e3) (WP.gd rfl g4 (WP.br rfl kt kf))))))))))))))))
theorem B83_24 {h : pm_H} {Q : Option Value → pm_H → Prop} {d0 : Option Value} {d1 : Option Value} {d2 : Option Value} {d3 : Option Value} {d4 : Option Value} {d5 : Option Value} (g1 : (Int32.ofInt 0) = 0 ∨ (Int32.ofInt 0) = 1) (k : Q (some (.int (Int32.ofInt 0))) h) : WP 83 24 [d0, d1, d2, d3, d4, d5] [] h Q :=
  WP.nx rfl (WP.rt rfl g1 k)
theorem B83_26 {h : pm_H} {Q : Option Value → pm_H → Prop} {r0 : Nat} {d1 : Option Value} {d2 : Option Value} {d3 : Option Value} {x4 : Int32} {d5 : Option Value} (g1 : zT h r0 = 11) (k : WP 83 32 [some (.ref r0), d1, d2, d3, some (.int x4), some (.int (zI h r0 1))] [] h Q) : WP 83 26 [some (.ref r0), d1, d2, d3, some (.int x4), d5] [] h Q :=
  WP.nx rfl (WP.gd rfl g1 (WP.nx rfl (k)))
theorem B83_32 {h : pm_H} {Q : Option Value → pm_H → Prop} {d0 : Option Value} {d1 : Option Value} {d2 : Option Value} {d3 : Option Value} {x4 : Int32} {x5 : Int32} (kt : x4 ≤ x5 → WP 83 61 [d0, d1, d2, d3, some (.int x4), some (.int x5)] [] h Q) (kf : ¬ x4 ≤ x5 → WP 83 39 [d0, d1, d2, d3, some (.int x4), some (.int x5)] [] h Q) : WP 83 32 [d0, d1, d2, d3, some (.int x4), some (.int x5)] [] h Q :=
  WP.nx rfl (WP.nx rfl (WP.br rfl kt kf))
theorem B83_39 {h : pm_H} {Q : Option Value → pm_H → Prop} {r0 : Nat} {d1 : Option Value} {d2 : Option Value} {x3 : Int32} {x4 : Int32} {x5 : Int32} {b2 : Nat} (g1 : zT h r0 = 11) (e3 : zR h r0 0 = some b2) (g4 : zT h b2 = 101 ∧ vp_in (x5 - x3) (zN h b2)) (g5 : zT h b2 = 101 ∧ vp_in x5 (zN h b2)) (k : WP 83 32 [some (.ref r0), d1, d2, some (.int x3), some (.int x4), some (.int (x5 + (Int32.ofInt 1)))] [] (yI h b2 (x5).toNatClampNeg (zI h b2 ((x5 - x3)).toNatClampNeg).toInt8.toInt32) Q) : WP 83 39 [some (.ref r0), d1, d2, some (.int x3), some (.int x4), some (.int x5)] [] h Q :=
  WP.nx rfl (WP.gd rfl g1 (WP.top (congrArg va_rf e3) (WP.nx rfl (WP.nx rfl (WP.gd rfl g1 (WP.top (congrArg va_rf e3) (WP.nx rfl (WP.nx rfl (WP.nx rfl (WP.gd rfl g4 (WP.gd rfl g5 (WP.nx rfl (WP.nx rfl (k))))))))))))))
theorem B83_61 {h : pm_H} {Q : Option Value → pm_H → Prop} {r0 : Nat} {d1 : Option Value} {d2 : Option Value} {d3 : Option Value} {x4 : Int32} {d5 : Option Value} (g1 : zT h r0 = 11) (g2 : (Int32.ofInt 1) = 0 ∨ (Int32.ofInt 1) = 1) (k : Q (some (.int (Int32.ofInt 1))) (yI h r0 1 x4)) : WP 83 61 [some (.ref r0), d1, d2, d3, some (.int x4), d5] [] h Q :=
  WP.nx rfl (WP.nx rfl (WP.gd rfl g1 (WP.nx rfl (WP.rt rfl g2 k))))
/-! 84 StripCloth.<init>()V -/
theorem B84_0 {h : pm_H} {Q : Option Value → pm_H → Prop} {r0 : Nat} (g1 : zT h r0 = 12) (k : WP 31 0 [some (.ref (zn h))] [] (yN (yI h r0 0 (Int32.ofInt 0)) 6 0 4) (fun v1 h1 => WP 84 17 [some (.ref r0)] (v1.toList ++ [.ref (zn h), .ref r0]) h1 Q)) : WP 84 0 [some (.ref r0)] [] h Q :=
  WP.nx rfl (WP.nx rfl (WP.nx rfl (WP.nx rfl (WP.gd rfl g1 (WP.nx rfl (WP.nx rfl (WP.nx rfl (WP.cl rfl trivial k))))))))
theorem B84_17 {h : pm_H} {Q : Option Value → pm_H → Prop} {d0 : Option Value} {s0 : Nat} {s1 : Nat} (g1 : zT h s0 = 12) (k : WP 84 20 [d0] [] (yR h s0 1 (some s1)) Q) : WP 84 17 [d0] [.ref s1, .ref s0] h Q :=
  WP.gd rfl g1 (k)
theorem B84_20 {h : pm_H} {Q : Option Value → pm_H → Prop} {r0 : Nat} (k : WP 12 0 [some (.ref (zn h))] [] (yN h 2 0 4) (fun v1 h1 => WP 84 28 [some (.ref r0)] (v1.toList ++ [.ref (zn h), .ref r0]) h1 Q)) : WP 84 20 [some (.ref r0)] [] h Q :=
  WP.nx rfl (WP.nx rfl (WP.nx rfl (WP.cl rfl trivial k)))
theorem B84_28 {h : pm_H} {Q : Option Value → pm_H → Prop} {d0 : Option Value} {s0 : Nat} {s1 : Nat} (g1 : zT h s0 = 12) (k : WP 84 31 [d0] [] (yR h s0 2 (some s1)) Q) : WP 84 28 [d0] [.ref s1, .ref s0] h Q :=
  WP.gd rfl g1 (k)
theorem B84_31 {h : pm_H} {Q : Option Value → pm_H → Prop} {r0 : Nat} (k : WP 49 0 [some (.ref (zn h))] [] (yN h 8 0 2) (fun v1 h1 => WP 84 39 [some (.ref r0)] (v1.toList ++ [.ref (zn h), .ref r0]) h1 Q)) : WP 84 31 [some (.ref r0)] [] h Q :=
  WP.nx rfl (WP.nx rfl (WP.nx rfl (WP.cl rfl trivial k)))
theorem B84_39 {h : pm_H} {Q : Option Value → pm_H → Prop} {d0 : Option Value} {s0 : Nat} {s1 : Nat} (g1 : zT h s0 = 12) (k : WP 84 42 [d0] [] (yR h s0 3 (some s1)) Q) : WP 84 39 [d0] [.ref s1, .ref s0] h Q :=
  WP.gd rfl g1 (k)
theorem B84_42 {h : pm_H} {Q : Option Value → pm_H → Prop} {r0 : Nat} (k : WP 7 0 [some (.ref (zn h))] [] (yN h 1 0 4) (fun v1 h1 => WP 84 50 [some (.ref r0)] (v1.toList ++ [.ref (zn h), .ref r0]) h1 Q)) : WP 84 42 [some (.ref r0)] [] h Q :=
  WP.nx rfl (WP.nx rfl (WP.nx rfl (WP.cl rfl trivial k)))
theorem B84_50 {h : pm_H} {Q : Option Value → pm_H → Prop} {d0 : Option Value} {s0 : Nat} {s1 : Nat} (g1 : zT h s0 = 12) (k : WP 84 53 [d0] [] (yR h s0 4 (some s1)) Q) : WP 84 50 [d0] [.ref s1, .ref s0] h Q :=
  WP.gd rfl g1 (k)
theorem B84_53 {h : pm_H} {Q : Option Value → pm_H → Prop} {r0 : Nat} (k : WP 0 0 [some (.ref (zn h))] [] (yN h 0 0 2) (fun v1 h1 => WP 84 61 [some (.ref r0)] (v1.toList ++ [.ref (zn h), .ref r0]) h1 Q)) : WP 84 53 [some (.ref r0)] [] h Q :=
  WP.nx rfl (WP.nx rfl (WP.nx rfl (WP.cl rfl trivial k)))
theorem B84_61 {h : pm_H} {Q : Option Value → pm_H → Prop} {d0 : Option Value} {s0 : Nat} {s1 : Nat} (g1 : zT h s0 = 12) (k : WP 84 64 [d0] [] (yR h s0 5 (some s1)) Q) : WP 84 61 [d0] [.ref s1, .ref s0] h Q :=
  WP.gd rfl g1 (k)
theorem B84_64 {h : pm_H} {Q : Option Value → pm_H → Prop} {r0 : Nat} (k : WP 23 0 [some (.ref (zn h))] [] (yN h 4 0 7) (fun v1 h1 => WP 84 72 [some (.ref r0)] (v1.toList ++ [.ref (zn h), .ref r0]) h1 Q)) : WP 84 64 [some (.ref r0)] [] h Q :=
  WP.nx rfl (WP.nx rfl (WP.nx rfl (WP.cl rfl trivial k)))
theorem B84_72 {h : pm_H} {Q : Option Value → pm_H → Prop} {d0 : Option Value} {s0 : Nat} {s1 : Nat} (g1 : zT h s0 = 12) (k : WP 84 75 [d0] [] (yR h s0 6 (some s1)) Q) : WP 84 72 [d0] [.ref s1, .ref s0] h Q :=
  WP.gd rfl g1 (k)
theorem B84_75 {h : pm_H} {Q : Option Value → pm_H → Prop} {r0 : Nat} (k : WP 46 0 [some (.ref (zn h))] [] (yN h 7 0 6) (fun v1 h1 => WP 84 83 [some (.ref r0)] (v1.toList ++ [.ref (zn h), .ref r0]) h1 Q)) : WP 84 75 [some (.ref r0)] [] h Q :=
  WP.nx rfl (WP.nx rfl (WP.nx rfl (WP.cl rfl trivial k)))
theorem B84_83 {h : pm_H} {Q : Option Value → pm_H → Prop} {d0 : Option Value} {s0 : Nat} {s1 : Nat} (g1 : zT h s0 = 12) (k : WP 84 86 [d0] [] (yR h s0 7 (some s1)) Q) : WP 84 83 [d0] [.ref s1, .ref s0] h Q :=
  WP.gd rfl g1 (k)
theorem B84_86 {h : pm_H} {Q : Option Value → pm_H → Prop} {r0 : Nat} (g1 : ¬ (Int32.ofInt 401) < 0 ∧ ((Int32.ofInt 401)).toNatClampNeg ≤ 100000) (g2 : zT (yN h 100 ((Int32.ofInt 401)).toNatClampNeg ((Int32.ofInt 401)).toNatClampNeg) r0 = 12) (k : WP 84 95 [some (.ref r0)] [] (yR (yN h 100 ((Int32.ofInt 401)).toNatClampNeg ((Int32.ofInt 401)).toNatClampNeg) r0 8 (some (zn h))) Q) : WP 84 86 [some (.ref r0)] [] h Q :=
  WP.nx rfl (WP.nx rfl (WP.gd rfl g1 (WP.gd rfl g2 (k))))
theorem B84_95 {h : pm_H} {Q : Option Value → pm_H → Prop} {r0 : Nat} (g1 : ¬ (Int32.ofInt 12) < 0 ∧ ((Int32.ofInt 12)).toNatClampNeg ≤ 100000) (g2 : zT (yN h 100 ((Int32.ofInt 12)).toNatClampNeg ((Int32.ofInt 12)).toNatClampNeg) r0 = 12) (k : WP 84 103 [some (.ref r0)] [] (yR (yN h 100 ((Int32.ofInt 12)).toNatClampNeg ((Int32.ofInt 12)).toNatClampNeg) r0 9 (some (zn h))) Q) : WP 84 95 [some (.ref r0)] [] h Q :=
  WP.nx rfl (WP.nx rfl (WP.gd rfl g1 (WP.gd rfl g2 (k))))
theorem B84_103 {h : pm_H} {Q : Option Value → pm_H → Prop} {r0 : Nat} (g1 : zT h r0 = 12) (k : Q none (yI (yI (yI h r0 10 (Int32.ofInt 0)) r0 11 (Int32.ofInt 100)) r0 12 (Int32.ofInt 8))) : WP 84 103 [some (.ref r0)] [] h Q :=
  WP.nx rfl (WP.nx rfl (WP.gd rfl g1 (WP.nx rfl (WP.nx rfl (WP.gd rfl g1 (WP.nx rfl (WP.nx rfl (WP.gd rfl g1 (WP.rt rfl trivial k)))))))))
/-! 85 StripCloth.status()I -/
theorem B85_0 {h : pm_H} {Q : Option Value → pm_H → Prop} {r0 : Nat} (g1 : zT h r0 = 12) (k : Q (some (.int (zI h r0 0))) h) : WP 85 0 [some (.ref r0)] [] h Q :=
  WP.nx rfl (WP.gd rfl g1 (WP.rt rfl trivial k))
/-! 86 StripCloth.feed(IIIII)I -/
theorem B86_0 {h : pm_H} {Q : Option Value → pm_H → Prop} {r0 : Nat} {x1 : Int32} {x2 : Int32} {x3 : Int32} {x4 : Int32} {x5 : Int32} {b2 : Nat} {b5 : Nat} (g1 : zT h r0 = 12) (e3 : zR h r0 1 = some b2) (g4 : zT h b2 = 6) (e6 : zR h b2 0 = some b5) (g7 : zT h b5 = 10) (k : WP 62 0 [some (.ref b5), some (.int x1), some (.int x2), some (.int x3), some (.int x4), some (.int x5)] [] h (fun v1 h1 => WP 86 17 [some (.ref r0), some (.int x1), some (.int x2), some (.int x3), some (.int x4), some (.int x5)] (v1.toList ++ []) h1 Q)) : WP 86 0 [some (.ref r0), some (.int x1), some (.int x2), some (.int x3), some (.int x4), some (.int x5)] [] h Q :=
  WP.nx rfl (WP.gd rfl g1 (WP.top (congrArg va_rf e3) (WP.gd rfl g4 (WP.top (congrArg va_rf e6) (WP.nx rfl (WP.nx rfl (WP.nx rfl (WP.nx rfl (WP.nx rfl (WP.cl rfl g7 k))))))))))
theorem B86_17 {h : pm_H} {Q : Option Value → pm_H → Prop} {d0 : Option Value} {d1 : Option Value} {d2 : Option Value} {d3 : Option Value} {d4 : Option Value} {d5 : Option Value} {s0 : Int32} (k : Q (some (.int s0)) h) : WP 86 17 [d0, d1, d2, d3, d4, d5] [.int s0] h Q :=
  WP.rt rfl trivial k
/-! 87 StripCloth.load(I)I -/
theorem B87_0 {h : pm_H} {Q : Option Value → pm_H → Prop} {d0 : Option Value} {x1 : Int32} {d2 : Option Value} (kt : x1 < 0 → WP 87 18 [d0, some (.int x1), d2] [] h Q) (kf : ¬ x1 < 0 → WP 87 4 [d0, some (.int x1), d2] [] h Q) : WP 87 0 [d0, some (.int x1), d2] [] h Q :=
  WP.nx rfl (WP.br rfl kt kf)
theorem B87_4 {h : pm_H} {Q : Option Value → pm_H → Prop} {r0 : Nat} {x1 : Int32} {d2 : Option Value} {b2 : Nat} {b5 : Nat} (g1 : zT h r0 = 12) (e3 : zR h r0 1 = some b2) (g4 : zT h b2 = 6) (e6 : zR h b2 0 = some b5) (g7 : zT h b5 = 10) (kt : x1 ≤ (zI h b5 1) → WP 87 24 [some (.ref r0), some (.int x1), d2] [] h Q) (kf : ¬ x1 ≤ (zI h b5 1) → WP 87 18 [some (.ref r0), some (.int x1), d2] [] h Q) : WP 87 4 [some (.ref r0), some (.int x1), d2] [] h Q :=
  WP.nx rfl (WP.nx rfl (WP.gd rfl g1 (WP.top (congrArg va_rf e3) (WP.gd rfl g4 (WP.top (congrArg va_rf e6) (WP.gd rfl g7 (WP.br rfl kt kf)))))))
theorem B87_18 {h : pm_H} {Q : Option Value → pm_H → Prop} {r0 : Nat} {d1 : Option Value} {d2 : Option Value} (g1 : zT h r0 = 12) (k : WP 107 0 [some (.ref r0), some (.int (Int32.ofInt 2))] [] h (fun v1 h1 => WP 87 23 [some (.ref r0), d1, d2] (v1.toList ++ []) h1 Q)) : WP 87 18 [some (.ref r0), d1, d2] [] h Q :=
  WP.nx rfl (WP.nx rfl (WP.cl rfl g1 k))
theorem B87_23 {h : pm_H} {Q : Option Value → pm_H → Prop} {d0 : Option Value} {d1 : Option Value} {d2 : Option Value} {s0 : Int32} (k : Q (some (.int s0)) h) : WP 87 23 [d0, d1, d2] [.int s0] h Q :=
  WP.rt rfl trivial k
theorem B87_24 {h : pm_H} {Q : Option Value → pm_H → Prop} {r0 : Nat} {x1 : Int32} {d2 : Option Value} {b2 : Nat} (g1 : zT h r0 = 12) (e3 : zR h r0 1 = some b2) (g4 : zT h b2 = 6) (k : WP 32 0 [some (.ref b2), some (.int x1), none, none, none] [] h (fun v1 h1 => WP 87 32 [some (.ref r0), some (.int x1), d2] (v1.toList ++ []) h1 Q)) : WP 87 24 [some (.ref r0), some (.int x1), d2] [] h Q :=
  WP.nx rfl (WP.gd rfl g1 (WP.top (congrArg va_rf e3) (WP.nx rfl (WP.cl rfl g4 k))))
theorem B87_32 {h : pm_H} {Q : Option Value → pm_H → Prop} {d0 : Option Value} {x1 : Int32} {d2 : Option Value} {s0 : Nat} (k : WP 87 43 [d0, some (.int x1), some (.ref s0)] [] h Q) : WP 87 32 [d0, some (.int x1), d2] [.ref s0] h Q :=
  WP.nx rfl (WP.nx rfl (WP.nx rfl (k)))
theorem B87_32n {h : pm_H} {Q : Option Value → pm_H → Prop} {d0 : Option Value} {x1 : Int32} {d2 : Option Value} (k : WP 87 37 [d0, some (.int x1), some (.null)] [] h Q) : WP 87 32 [d0, some (.int x1), d2] [.null] h Q :=
  WP.nx rfl (WP.nx rfl (WP.nx rfl (k)))
theorem B87_37 {h : pm_H} {Q : Option Value → pm_H → Prop} {r0 : Nat} {d1 : Option Value} {d2 : Option Value} (g1 : zT h r0 = 12) (k : WP 107 0 [some (.ref r0), some (.int (Int32.ofInt 4))] [] h (fun v1 h1 => WP 87 42 [some (.ref r0), d1, d2] (v1.toList ++ []) h1 Q)) : WP 87 37 [some (.ref r0), d1, d2] [] h Q :=
  WP.nx rfl (WP.nx rfl (WP.cl rfl g1 k))
theorem B87_42 {h : pm_H} {Q : Option Value → pm_H → Prop} {d0 : Option Value} {d1 : Option Value} {d2 : Option Value} {s0 : Int32} (k : Q (some (.int s0)) h) : WP 87 42 [d0, d1, d2] [.int s0] h Q :=
  WP.rt rfl trivial k
theorem B87_43 {h : pm_H} {Q : Option Value → pm_H → Prop} {r0 : Nat} {d1 : Option Value} {r2 : Nat} (g1 : zT h r0 = 12) (k : WP 87 48 [some (.ref r0), d1, some (.ref r2)] [] (yR h r0 2 (some r2)) Q) : WP 87 43 [some (.ref r0), d1, some (.ref r2)] [] h Q :=
  WP.nx rfl (WP.nx rfl (WP.gd rfl g1 (k)))
theorem B87_48 {h : pm_H} {Q : Option Value → pm_H → Prop} {r0 : Nat} {d1 : Option Value} {r2 : Nat} (g1 : zT h r2 = 2) (g2 : zT h r0 = 12) (k : WP 106 0 [some (.ref r0), some (.int (zI h r2 1))] [] h (fun v1 h1 => WP 87 56 [some (.ref r0), d1, some (.ref r2)] (v1.toList ++ []) h1 Q)) : WP 87 48 [some (.ref r0), d1, some (.ref r2)] [] h Q :=
  WP.nx rfl (WP.nx rfl (WP.gd rfl g1 (WP.cl rfl g2 k)))
theorem B87_56 {h : pm_H} {Q : Option Value → pm_H → Prop} {d0 : Option Value} {d1 : Option Value} {d2 : Option Value} {s0 : Int32} (k : Q (some (.int s0)) h) : WP 87 56 [d0, d1, d2] [.int s0] h Q :=
  WP.rt rfl trivial k
/-! 88 StripCloth.fault(I)I -/
theorem B88_0 {h : pm_H} {Q : Option Value → pm_H → Prop} {d0 : Option Value} {x1 : Int32} (k : WP 88 (pm_lsw [(0, 28), (1, 36)] 44 x1) [d0, some (.int x1)] [] h Q) : WP 88 0 [d0, some (.int x1)] [] h Q :=
  WP.nx rfl (WP.nx rfl (k))
theorem B88_28 {h : pm_H} {Q : Option Value → pm_H → Prop} {r0 : Nat} {d1 : Option Value} {b2 : Nat} (g1 : zT h r0 = 12) (e3 : zR h r0 1 = some b2) (g4 : zT h b2 = 6) (k : Q (some (.int (zI h b2 1))) h) : WP 88 28 [some (.ref r0), d1] [] h Q :=
  WP.nx rfl (WP.gd rfl g1 (WP.top (congrArg va_rf e3) (WP.gd rfl g4 (WP.rt rfl trivial k))))
theorem B88_36 {h : pm_H} {Q : Option Value → pm_H → Prop} {r0 : Nat} {d1 : Option Value} {b2 : Nat} (g1 : zT h r0 = 12) (e3 : zR h r0 1 = some b2) (g4 : zT h b2 = 6) (k : Q (some (.int (zI h b2 2))) h) : WP 88 36 [some (.ref r0), d1] [] h Q :=
  WP.nx rfl (WP.gd rfl g1 (WP.top (congrArg va_rf e3) (WP.gd rfl g4 (WP.rt rfl trivial k))))
theorem B88_44 {h : pm_H} {Q : Option Value → pm_H → Prop} {d0 : Option Value} {d1 : Option Value} (k : Q (some (.int (Int32.ofInt (-1)))) h) : WP 88 44 [d0, d1] [] h Q :=
  WP.nx rfl (WP.rt rfl trivial k)
/-! 89 StripCloth.strip(II)I -/
theorem B89_0 {h : pm_H} {Q : Option Value → pm_H → Prop} {r0 : Nat} {x1 : Int32} {d2 : Option Value} {d3 : Option Value} {b2 : Nat} (g1 : zT h r0 = 12) (e3 : zR h r0 2 = some b2) (g4 : zT h b2 = 2) (k : WP 15 0 [some (.ref b2), some (.int x1)] [] h (fun v1 h1 => WP 89 8 [some (.ref r0), some (.int x1), d2, d3] (v1.toList ++ []) h1 Q)) : WP 89 0 [some (.ref r0), some (.int x1), d2, d3] [] h Q :=
  WP.nx rfl (WP.gd rfl g1 (WP.top (congrArg va_rf e3) (WP.nx rfl (WP.cl rfl g4 k))))
theorem B89_8 {h : pm_H} {Q : Option Value → pm_H → Prop} {d0 : Option Value} {d1 : Option Value} {x2 : Int32} {d3 : Option Value} {s0 : Nat} (k : WP 89 19 [d0, d1, some (.int x2), some (.ref s0)] [] h Q) : WP 89 8 [d0, d1, some (.int x2), d3] [.ref s0] h Q :=
  WP.nx rfl (WP.nx rfl (WP.nx rfl (k)))
theorem B89_8n {h : pm_H} {Q : Option Value → pm_H → Prop} {d0 : Option Value} {d1 : Option Value} {x2 : Int32} {d3 : Option Value} (k : WP 89 13 [d0, d1, some (.int x2), some (.null)] [] h Q) : WP 89 8 [d0, d1, some (.int x2), d3] [.null] h Q :=
  WP.nx rfl (WP.nx rfl (WP.nx rfl (k)))
theorem B89_13 {h : pm_H} {Q : Option Value → pm_H → Prop} {r0 : Nat} {d1 : Option Value} {d2 : Option Value} {d3 : Option Value} (g1 : zT h r0 = 12) (k : WP 107 0 [some (.ref r0), some (.int (Int32.ofInt 1))] [] h (fun v1 h1 => WP 89 18 [some (.ref r0), d1, d2, d3] (v1.toList ++ []) h1 Q)) : WP 89 13 [some (.ref r0), d1, d2, d3] [] h Q :=
  WP.nx rfl (WP.nx rfl (WP.cl rfl g1 k))
theorem B89_18 {h : pm_H} {Q : Option Value → pm_H → Prop} {d0 : Option Value} {d1 : Option Value} {d2 : Option Value} {d3 : Option Value} {s0 : Int32} (k : Q (some (.int s0)) h) : WP 89 18 [d0, d1, d2, d3] [.int s0] h Q :=
  WP.rt rfl trivial k
theorem B89_19 {h : pm_H} {Q : Option Value → pm_H → Prop} {d0 : Option Value} {d1 : Option Value} {x2 : Int32} {d3 : Option Value} (k : WP 89 (pm_tsw 77 0 2 #[48, 57, 67] x2) [d0, d1, some (.int x2), d3] [] h Q) : WP 89 19 [d0, d1, some (.int x2), d3] [] h Q :=
  WP.nx rfl (WP.nx rfl (k))
theorem B89_48 {h : pm_H} {Q : Option Value → pm_H → Prop} {r0 : Nat} {d1 : Option Value} {d2 : Option Value} {r3 : Nat} (g1 : zT h r3 = 9) (g2 : zT h r0 = 12) (k : WP 106 0 [some (.ref r0), some (.int (zI h r3 0))] [] h (fun v1 h1 => WP 89 56 [some (.ref r0), d1, d2, some (.ref r3)] (v1.toList ++ []) h1 Q)) : WP 89 48 [some (.ref r0), d1, d2, some (.ref r3)] [] h Q :=
  WP.nx rfl (WP.nx rfl (WP.gd rfl g1 (WP.cl rfl g2 k)))
theorem B89_56 {h : pm_H} {Q : Option Value → pm_H → Prop} {d0 : Option Value} {d1 : Option Value} {d2 : Option Value} {d3 : Option Value} {s0 : Int32} (k : Q (some (.int s0)) h) : WP 89 56 [d0, d1, d2, d3] [.int s0] h Q :=
  WP.rt rfl trivial k
theorem B89_57 {h : pm_H} {Q : Option Value → pm_H → Prop} {r0 : Nat} {d1 : Option Value} {d2 : Option Value} {r3 : Nat} {b2 : Nat} (g1 : zT h r3 = 9) (e3 : zR h r3 1 = some b2) (g4 : 100 ≤ zT h b2 ∧ zT h b2 ≤ 105) (g5 : zT h r0 = 12) (k : WP 106 0 [some (.ref r0), some (.int (Int32.ofInt (zN h b2)))] [] h (fun v1 h1 => WP 89 66 [some (.ref r0), d1, d2, some (.ref r3)] (v1.toList ++ []) h1 Q)) : WP 89 57 [some (.ref r0), d1, d2, some (.ref r3)] [] h Q :=
  WP.nx rfl (WP.nx rfl (WP.gd rfl g1 (WP.top (congrArg va_rf e3) (WP.gd rfl g4 (WP.cl rfl g5 k)))))
theorem B89_66 {h : pm_H} {Q : Option Value → pm_H → Prop} {d0 : Option Value} {d1 : Option Value} {d2 : Option Value} {d3 : Option Value} {s0 : Int32} (k : Q (some (.int s0)) h) : WP 89 66 [d0, d1, d2, d3] [.int s0] h Q :=
  WP.rt rfl trivial k
theorem B89_67 {h : pm_H} {Q : Option Value → pm_H → Prop} {r0 : Nat} {d1 : Option Value} {d2 : Option Value} {r3 : Nat} {b2 : Nat} (g1 : zT h r3 = 9) (e3 : zR h r3 2 = some b2) (g4 : 100 ≤ zT h b2 ∧ zT h b2 ≤ 105) (g5 : zT h r0 = 12) (k : WP 106 0 [some (.ref r0), some (.int (Int32.ofInt (zN h b2)))] [] h (fun v1 h1 => WP 89 76 [some (.ref r0), d1, d2, some (.ref r3)] (v1.toList ++ []) h1 Q)) : WP 89 67 [some (.ref r0), d1, d2, some (.ref r3)] [] h Q :=
  WP.nx rfl (WP.nx rfl (WP.gd rfl g1 (WP.top (congrArg va_rf e3) (WP.gd rfl g4 (WP.cl rfl g5 k)))))
theorem B89_76 {h : pm_H} {Q : Option Value → pm_H → Prop} {d0 : Option Value} {d1 : Option Value} {d2 : Option Value} {d3 : Option Value} {s0 : Int32} (k : Q (some (.int s0)) h) : WP 89 76 [d0, d1, d2, d3] [.int s0] h Q :=
  WP.rt rfl trivial k
theorem B89_77 {h : pm_H} {Q : Option Value → pm_H → Prop} {r0 : Nat} {d1 : Option Value} {d2 : Option Value} {d3 : Option Value} (g1 : zT h r0 = 12) (k : WP 107 0 [some (.ref r0), some (.int (Int32.ofInt 2))] [] h (fun v1 h1 => WP 89 82 [some (.ref r0), d1, d2, d3] (v1.toList ++ []) h1 Q)) : WP 89 77 [some (.ref r0), d1, d2, d3] [] h Q :=
  WP.nx rfl (WP.nx rfl (WP.cl rfl g1 k))
theorem B89_82 {h : pm_H} {Q : Option Value → pm_H → Prop} {d0 : Option Value} {d1 : Option Value} {d2 : Option Value} {d3 : Option Value} {s0 : Int32} (k : Q (some (.int s0)) h) : WP 89 82 [d0, d1, d2, d3] [.int s0] h Q :=
  WP.rt rfl trivial k
/-! 90 StripCloth.pick(II)I -/
theorem B90_0 {h : pm_H} {Q : Option Value → pm_H → Prop} {r0 : Nat} {x1 : Int32} {d2 : Option Value} {d3 : Option Value} {b2 : Nat} (g1 : zT h r0 = 12) (e3 : zR h r0 2 = some b2) (g4 : zT h b2 = 2) (k : WP 15 0 [some (.ref b2), some (.int x1)] [] h (fun v1 h1 => WP 90 8 [some (.ref r0), some (.int x1), d2, d3] (v1.toList ++ []) h1 Q)) : WP 90 0 [some (.ref r0), some (.int x1), d2, d3] [] h Q :=
  WP.nx rfl (WP.gd rfl g1 (WP.top (congrArg va_rf e3) (WP.nx rfl (WP.cl rfl g4 k))))
theorem B90_8 {h : pm_H} {Q : Option Value → pm_H → Prop} {d0 : Option Value} {d1 : Option Value} {x2 : Int32} {d3 : Option Value} {s0 : Nat} (k : WP 90 19 [d0, d1, some (.int x2), some (.ref s0)] [] h Q) : WP 90 8 [d0, d1, some (.int x2), d3] [.ref s0] h Q :=
  WP.nx rfl (WP.nx rfl (WP.nx rfl (k)))
theorem B90_8n {h : pm_H} {Q : Option Value → pm_H → Prop} {d0 : Option Value} {d1 : Option Value} {x2 : Int32} {d3 : Option Value} (k : WP 90 13 [d0, d1, some (.int x2), some (.null)] [] h Q) : WP 90 8 [d0, d1, some (.int x2), d3] [.null] h Q :=
  WP.nx rfl (WP.nx rfl (WP.nx rfl (k)))
theorem B90_13 {h : pm_H} {Q : Option Value → pm_H → Prop} {r0 : Nat} {d1 : Option Value} {d2 : Option Value} {d3 : Option Value} (g1 : zT h r0 = 12) (k : WP 107 0 [some (.ref r0), some (.int (Int32.ofInt 1))] [] h (fun v1 h1 => WP 90 18 [some (.ref r0), d1, d2, d3] (v1.toList ++ []) h1 Q)) : WP 90 13 [some (.ref r0), d1, d2, d3] [] h Q :=
  WP.nx rfl (WP.nx rfl (WP.cl rfl g1 k))
theorem B90_18 {h : pm_H} {Q : Option Value → pm_H → Prop} {d0 : Option Value} {d1 : Option Value} {d2 : Option Value} {d3 : Option Value} {s0 : Int32} (k : Q (some (.int s0)) h) : WP 90 18 [d0, d1, d2, d3] [.int s0] h Q :=
  WP.rt rfl trivial k
theorem B90_19 {h : pm_H} {Q : Option Value → pm_H → Prop} {d0 : Option Value} {d1 : Option Value} {x2 : Int32} {d3 : Option Value} (kt : x2 < 0 → WP 90 32 [d0, d1, some (.int x2), d3] [] h Q) (kf : ¬ x2 < 0 → WP 90 23 [d0, d1, some (.int x2), d3] [] h Q) : WP 90 19 [d0, d1, some (.int x2), d3] [] h Q :=
  WP.nx rfl (WP.br rfl kt kf)
theorem B90_23 {h : pm_H} {Q : Option Value → pm_H → Prop} {d0 : Option Value} {d1 : Option Value} {x2 : Int32} {r3 : Nat} {b2 : Nat} (g1 : zT h r3 = 9) (e3 : zR h r3 1 = some b2) (g4 : 100 ≤ zT h b2 ∧ zT h b2 ≤ 105) (kt : x2 < (Int32.ofInt (zN h b2)) → WP 90 38 [d0, d1, some (.int x2), some (.ref r3)] [] h Q) (kf : ¬ x2 < (Int32.ofInt (zN h b2)) → WP 90 32 [d0, d1, some (.int x2), some (.ref r3)] [] h Q) : WP 90 23 [d0, d1, some (.int x2), some (.ref r3)] [] h Q :=
  WP.nx rfl (WP.nx rfl (WP.gd rfl g1 (WP.top (congrArg va_rf e3) (WP.gd rfl g4 (WP.br rfl kt kf)))))
theorem B90_32 {h : pm_H} {Q : Option Value → pm_H → Prop} {r0 : Nat} {d1 : Option Value} {d2 : Option Value} {d3 : Option Value} (g1 : zT h r0 = 12) (k : WP 107 0 [some (.ref r0), some (.int (Int32.ofInt 2))] [] h (fun v1 h1 => WP 90 37 [some (.ref r0), d1, d2, d3] (v1.toList ++ []) h1 Q)) : WP 90 32 [some (.ref r0), d1, d2, d3] [] h Q :=
  WP.nx rfl (WP.nx rfl (WP.cl rfl g1 k))
theorem B90_37 {h : pm_H} {Q : Option Value → pm_H → Prop} {d0 : Option Value} {d1 : Option Value} {d2 : Option Value} {d3 : Option Value} {s0 : Int32} (k : Q (some (.int s0)) h) : WP 90 37 [d0, d1, d2, d3] [.int s0] h Q :=
  WP.rt rfl trivial k
theorem B90_38 {h : pm_H} {Q : Option Value → pm_H → Prop} {r0 : Nat} {d1 : Option Value} {x2 : Int32} {r3 : Nat} {b2 : Nat} (g1 : zT h r3 = 9) (e3 : zR h r3 1 = some b2) (g4 : zT h b2 = 101 ∧ vp_in x2 (zN h b2)) (g5 : zT h r0 = 12) (k : WP 106 0 [some (.ref r0), some (.int (zI h b2 (x2).toNatClampNeg))] [] h (fun v1 h1 => WP 90 48 [some (.ref r0), d1, some (.int x2), some (.ref r3)] (v1.toList ++ []) h1 Q)) : WP 90 38 [some (.ref r0), d1, some (.int x2), some (.ref r3)] [] h Q :=
  WP.nx rfl (WP.nx rfl (WP.gd rfl g1 (WP.top (congrArg va_rf e3) (WP.nx rfl (WP.gd rfl g4 (WP.cl rfl g5 k))))))
theorem B90_48 {h : pm_H} {Q : Option Value → pm_H → Prop} {d0 : Option Value} {d1 : Option Value} {d2 : Option Value} {d3 : Option Value} {s0 : Int32} (k : Q (some (.int s0)) h) : WP 90 48 [d0, d1, d2, d3] [.int s0] h Q :=
  WP.rt rfl trivial k
/-! 91 StripCloth.block(III)I -/
theorem B91_0 {h : pm_H} {Q : Option Value → pm_H → Prop} {r0 : Nat} {x1 : Int32} {d2 : Option Value} {d3 : Option Value} {d4 : Option Value} {b2 : Nat} (g1 : zT h r0 = 12) (e3 : zR h r0 2 = some b2) (g4 : zT h b2 = 2) (k : WP 15 0 [some (.ref b2), some (.int x1)] [] h (fun v1 h1 => WP 91 8 [some (.ref r0), some (.int x1), d2, d3, d4] (v1.toList ++ []) h1 Q)) : WP 91 0 [some (.ref r0), some (.int x1), d2, d3, d4] [] h Q :=
  WP.nx rfl (WP.gd rfl g1 (WP.top (congrArg va_rf e3) (WP.nx rfl (WP.cl rfl g4 k))))
theorem B91_8 {h : pm_H} {Q : Option Value → pm_H → Prop} {d0 : Option Value} {d1 : Option Value} {d2 : Option Value} {x3 : Int32} {d4 : Option Value} {s0 : Nat} (k : WP 91 21 [d0, d1, d2, some (.int x3), some (.ref s0)] [] h Q) : WP 91 8 [d0, d1, d2, some (.int x3), d4] [.ref s0] h Q :=
  WP.nx rfl (WP.nx rfl (WP.nx rfl (k)))
theorem B91_8n {h : pm_H} {Q : Option Value → pm_H → Prop} {d0 : Option Value} {d1 : Option Value} {d2 : Option Value} {x3 : Int32} {d4 : Option Value} (k : WP 91 15 [d0, d1, d2, some (.int x3), some (.null)] [] h Q) : WP 91 8 [d0, d1, d2, some (.int x3), d4] [.null] h Q :=
  WP.nx rfl (WP.nx rfl (WP.nx rfl (k)))
theorem B91_15 {h : pm_H} {Q : Option Value → pm_H → Prop} {r0 : Nat} {d1 : Option Value} {d2 : Option Value} {d3 : Option Value} {d4 : Option Value} (g1 : zT h r0 = 12) (k : WP 107 0 [some (.ref r0), some (.int (Int32.ofInt 1))] [] h (fun v1 h1 => WP 91 20 [some (.ref r0), d1, d2, d3, d4] (v1.toList ++ []) h1 Q)) : WP 91 15 [some (.ref r0), d1, d2, d3, d4] [] h Q :=
  WP.nx rfl (WP.nx rfl (WP.cl rfl g1 k))
theorem B91_20 {h : pm_H} {Q : Option Value → pm_H → Prop} {d0 : Option Value} {d1 : Option Value} {d2 : Option Value} {d3 : Option Value} {d4 : Option Value} {s0 : Int32} (k : Q (some (.int s0)) h) : WP 91 20 [d0, d1, d2, d3, d4] [.int s0] h Q :=
  WP.rt rfl trivial k
theorem B91_21 {h : pm_H} {Q : Option Value → pm_H → Prop} {d0 : Option Value} {d1 : Option Value} {x2 : Int32} {d3 : Option Value} {d4 : Option Value} (kt : x2 < 0 → WP 91 35 [d0, d1, some (.int x2), d3, d4] [] h Q) (kf : ¬ x2 < 0 → WP 91 25 [d0, d1, some (.int x2), d3, d4] [] h Q) : WP 91 21 [d0, d1, some (.int x2), d3, d4] [] h Q :=
  WP.nx rfl (WP.br rfl kt kf)
theorem B91_25 {h : pm_H} {Q : Option Value → pm_H → Prop} {d0 : Option Value} {d1 : Option Value} {x2 : Int32} {d3 : Option Value} {r4 : Nat} {b2 : Nat} (g1 : zT h r4 = 9) (e3 : zR h r4 2 = some b2) (g4 : 100 ≤ zT h b2 ∧ zT h b2 ≤ 105) (kt : x2 < (Int32.ofInt (zN h b2)) → WP 91 41 [d0, d1, some (.int x2), d3, some (.ref r4)] [] h Q) (kf : ¬ x2 < (Int32.ofInt (zN h b2)) → WP 91 35 [d0, d1, some (.int x2), d3, some (.ref r4)] [] h Q) : WP 91 25 [d0, d1, some (.int x2), d3, some (.ref r4)] [] h Q :=
  WP.nx rfl (WP.nx rfl (WP.gd rfl g1 (WP.top (congrArg va_rf e3) (WP.gd rfl g4 (WP.br rfl kt kf)))))
theorem B91_35 {h : pm_H} {Q : Option Value → pm_H → Prop} {r0 : Nat} {d1 : Option Value} {d2 : Option Value} {d3 : Option Value} {d4 : Option Value} (g1 : zT h r0 = 12) (k : WP 107 0 [some (.ref r0), some (.int (Int32.ofInt 2))] [] h (fun v1 h1 => WP 91 40 [some (.ref r0), d1, d2, d3, d4] (v1.toList ++ []) h1 Q)) : WP 91 35 [some (.ref r0), d1, d2, d3, d4] [] h Q :=
  WP.nx rfl (WP.nx rfl (WP.cl rfl g1 k))
theorem B91_40 {h : pm_H} {Q : Option Value → pm_H → Prop} {d0 : Option Value} {d1 : Option Value} {d2 : Option Value} {d3 : Option Value} {d4 : Option Value} {s0 : Int32} (k : Q (some (.int s0)) h) : WP 91 40 [d0, d1, d2, d3, d4] [.int s0] h Q :=
  WP.rt rfl trivial k
theorem B91_41 {h : pm_H} {Q : Option Value → pm_H → Prop} {d0 : Option Value} {d1 : Option Value} {d2 : Option Value} {x3 : Int32} {d4 : Option Value} (k : WP 91 (pm_lsw [(0, 68), (1, 79)] 90 x3) [d0, d1, d2, some (.int x3), d4] [] h Q) : WP 91 41 [d0, d1, d2, some (.int x3), d4] [] h Q :=
  WP.nx rfl (WP.nx rfl (k))
theorem B91_68 {h : pm_H} {Q : Option Value → pm_H → Prop} {r0 : Nat} {d1 : Option Value} {x2 : Int32} {d3 : Option Value} {r4 : Nat} (g1 : zT h r4 = 9) (k : WP 58 0 [some (.ref r4), some (.int x2)] [] h (fun v1 h1 => WP 91 75 [some (.ref r0), d1, some (.int x2), d3, some (.ref r4)] (v1.toList ++ [.ref r0]) h1 Q)) : WP 91 68 [some (.ref r0), d1, some (.int x2), d3, some (.ref r4)] [] h Q :=
  WP.nx rfl (WP.nx rfl (WP.nx rfl (WP.cl rfl g1 k)))
theorem B91_75 {h : pm_H} {Q : Option Value → pm_H → Prop} {d0 : Option Value} {d1 : Option Value} {d2 : Option Value} {d3 : Option Value} {d4 : Option Value} {s0 : Nat} {s1 : Int32} (g1 : zT h s0 = 12) (k : WP 106 0 [some (.ref s0), some (.int s1)] [] h (fun v1 h1 => WP 91 78 [d0, d1, d2, d3, d4] (v1.toList ++ []) h1 Q)) : WP 91 75 [d0, d1, d2, d3, d4] [.int s1, .ref s0] h Q :=
  WP.cl rfl g1 k
theorem B91_78 {h : pm_H} {Q : Option Value → pm_H → Prop} {d0 : Option Value} {d1 : Option Value} {d2 : Option Value} {d3 : Option Value} {d4 : Option Value} {s0 : Int32} (k : Q (some (.int s0)) h) : WP 91 78 [d0, d1, d2, d3, d4] [.int s0] h Q :=
  WP.rt rfl trivial k
theorem B91_79 {h : pm_H} {Q : Option Value → pm_H → Prop} {r0 : Nat} {d1 : Option Value} {x2 : Int32} {d3 : Option Value} {r4 : Nat} (g1 : zT h r4 = 9) (k : WP 59 0 [some (.ref r4), some (.int x2)] [] h (fun v1 h1 => WP 91 86 [some (.ref r0), d1, some (.int x2), d3, some (.ref r4)] (v1.toList ++ [.ref r0]) h1 Q)) : WP 91 79 [some (.ref r0), d1, some (.int x2), d3, some (.ref r4)] [] h Q :=
  WP.nx rfl (WP.nx rfl (WP.nx rfl (WP.cl rfl g1 k)))
theorem B91_86 {h : pm_H} {Q : Option Value → pm_H → Prop} {d0 : Option Value} {d1 : Option Value} {d2 : Option Value} {d3 : Option Value} {d4 : Option Value} {s0 : Nat} {s1 : Int32} (g1 : zT h s0 = 12) (k : WP 106 0 [some (.ref s0), some (.int s1)] [] h (fun v1 h1 => WP 91 89 [d0, d1, d2, d3, d4] (v1.toList ++ []) h1 Q)) : WP 91 86 [d0, d1, d2, d3, d4] [.int s1, .ref s0] h Q :=
  WP.cl rfl g1 k
theorem B91_89 {h : pm_H} {Q : Option Value → pm_H → Prop} {d0 : Option Value} {d1 : Option Value} {d2 : Option Value} {d3 : Option Value} {d4 : Option Value} {s0 : Int32} (k : Q (some (.int s0)) h) : WP 91 89 [d0, d1, d2, d3, d4] [.int s0] h Q :=
  WP.rt rfl trivial k
theorem B91_90 {h : pm_H} {Q : Option Value → pm_H → Prop} {r0 : Nat} {d1 : Option Value} {d2 : Option Value} {d3 : Option Value} {d4 : Option Value} (g1 : zT h r0 = 12) (k : WP 107 0 [some (.ref r0), some (.int (Int32.ofInt 2))] [] h (fun v1 h1 => WP 91 95 [some (.ref r0), d1, d2, d3, d4] (v1.toList ++ []) h1 Q)) : WP 91 90 [some (.ref r0), d1, d2, d3, d4] [] h Q :=
  WP.nx rfl (WP.nx rfl (WP.cl rfl g1 k))
theorem B91_95 {h : pm_H} {Q : Option Value → pm_H → Prop} {d0 : Option Value} {d1 : Option Value} {d2 : Option Value} {d3 : Option Value} {d4 : Option Value} {s0 : Int32} (k : Q (some (.int s0)) h) : WP 91 95 [d0, d1, d2, d3, d4] [.int s0] h Q :=
  WP.rt rfl trivial k
/-! 92 StripCloth.cloth(III)I -/
theorem B92_0 {h : pm_H} {Q : Option Value → pm_H → Prop} {r0 : Nat} {x1 : Int32} {d2 : Option Value} {d3 : Option Value} {d4 : Option Value} {d5 : Option Value} {b2 : Nat} (g1 : zT h r0 = 12) (e3 : zR h r0 2 = some b2) (g4 : zT h b2 = 2) (k : WP 16 0 [some (.ref b2), some (.int x1)] [] h (fun v1 h1 => WP 92 8 [some (.ref r0), some (.int x1), d2, d3, d4, d5] (v1.toList ++ []) h1 Q)) : WP 92 0 [some (.ref r0), some (.int x1), d2, d3, d4, d5] [] h Q :=
  WP.nx rfl (WP.gd rfl g1 (WP.top (congrArg va_rf e3) (WP.nx rfl (WP.cl rfl g4 k))))
theorem B92_8 {h : pm_H} {Q : Option Value → pm_H → Prop} {d0 : Option Value} {d1 : Option Value} {d2 : Option Value} {x3 : Int32} {d4 : Option Value} {d5 : Option Value} {s0 : Nat} (k : WP 92 21 [d0, d1, d2, some (.int x3), some (.ref s0), d5] [] h Q) : WP 92 8 [d0, d1, d2, some (.int x3), d4, d5] [.ref s0] h Q :=
  WP.nx rfl (WP.nx rfl (WP.nx rfl (k)))
theorem B92_8n {h : pm_H} {Q : Option Value → pm_H → Prop} {d0 : Option Value} {d1 : Option Value} {d2 : Option Value} {x3 : Int32} {d4 : Option Value} {d5 : Option Value} (k : WP 92 15 [d0, d1, d2, some (.int x3), some (.null), d5] [] h Q) : WP 92 8 [d0, d1, d2, some (.int x3), d4, d5] [.null] h Q :=
  WP.nx rfl (WP.nx rfl (WP.nx rfl (k)))
theorem B92_15 {h : pm_H} {Q : Option Value → pm_H → Prop} {r0 : Nat} {d1 : Option Value} {d2 : Option Value} {d3 : Option Value} {d4 : Option Value} {d5 : Option Value} (g1 : zT h r0 = 12) (k : WP 107 0 [some (.ref r0), some (.int (Int32.ofInt 1))] [] h (fun v1 h1 => WP 92 20 [some (.ref r0), d1, d2, d3, d4, d5] (v1.toList ++ []) h1 Q)) : WP 92 15 [some (.ref r0), d1, d2, d3, d4, d5] [] h Q :=
  WP.nx rfl (WP.nx rfl (WP.cl rfl g1 k))
theorem B92_20 {h : pm_H} {Q : Option Value → pm_H → Prop} {d0 : Option Value} {d1 : Option Value} {d2 : Option Value} {d3 : Option Value} {d4 : Option Value} {d5 : Option Value} {s0 : Int32} (k : Q (some (.int s0)) h) : WP 92 20 [d0, d1, d2, d3, d4, d5] [.int s0] h Q :=
  WP.rt rfl trivial k
theorem B92_21 {h : pm_H} {Q : Option Value → pm_H → Prop} {d0 : Option Value} {d1 : Option Value} {x2 : Int32} {d3 : Option Value} {d4 : Option Value} {d5 : Option Value} (kt : ¬ x2 = (Int32.ofInt (-1)) → WP 92 34 [d0, d1, some (.int x2), d3, d4, d5] [] h Q) (kf : x2 = (Int32.ofInt (-1)) → WP 92 26 [d0, d1, some (.int x2), d3, d4, d5] [] h Q) : WP 92 21 [d0, d1, some (.int x2), d3, d4, d5] [] h Q :=
  WP.nx rfl (WP.nx rfl (WP.br rfl kt (fun q => kf (Decidable.not_not.mp q))))
theorem B92_26 {h : pm_H} {Q : Option Value → pm_H → Prop} {r0 : Nat} {d1 : Option Value} {d2 : Option Value} {x3 : Int32} {r4 : Nat} {d5 : Option Value} (g1 : zT h r0 = 12) (k : WP 115 0 [some (.ref r0), some (.ref r4), some (.int x3)] [] h (fun v1 h1 => WP 92 33 [some (.ref r0), d1, d2, some (.int x3), some (.ref r4), d5] (v1.toList ++ []) h1 Q)) : WP 92 26 [some (.ref r0), d1, d2, some (.int x3), some (.ref r4), d5] [] h Q :=
  WP.nx rfl (WP.nx rfl (WP.nx rfl (WP.cl rfl g1 k)))
theorem B92_33 {h : pm_H} {Q : Option Value → pm_H → Prop} {d0 : Option Value} {d1 : Option Value} {d2 : Option Value} {d3 : Option Value} {d4 : Option Value} {d5 : Option Value} {s0 : Int32} (k : Q (some (.int s0)) h) : WP 92 33 [d0, d1, d2, d3, d4, d5] [.int s0] h Q :=
  WP.rt rfl trivial k
theorem B92_34 {h : pm_H} {Q : Option Value → pm_H → Prop} {d0 : Option Value} {d1 : Option Value} {x2 : Int32} {d3 : Option Value} {r4 : Nat} {d5 : Option Value} (g1 : zT h r4 = 3) (k : WP 21 0 [some (.ref r4), some (.int x2)] [] h (fun v1 h1 => WP 92 40 [d0, d1, some (.int x2), d3, some (.ref r4), d5] (v1.toList ++ []) h1 Q)) : WP 92 34 [d0, d1, some (.int x2), d3, some (.ref r4), d5] [] h Q :=
  WP.nx rfl (WP.nx rfl (WP.cl rfl g1 k))
theorem B92_40 {h : pm_H} {Q : Option Value → pm_H → Prop} {d0 : Option Value} {d1 : Option Value} {d2 : Option Value} {d3 : Option Value} {r4 : Nat} {d5 : Option Value} {s0 : Nat} (k : WP 92 53 [d0, d1, d2, d3, some (.ref r4), some (.ref s0)] [] h Q) : WP 92 40 [d0, d1, d2, d3, some (.ref r4), d5] [.ref s0] h Q :=
  WP.nx rfl (WP.nx rfl (WP.nx rfl (k)))
theorem B92_40n {h : pm_H} {Q : Option Value → pm_H → Prop} {d0 : Option Value} {d1 : Option Value} {d2 : Option Value} {d3 : Option Value} {r4 : Nat} {d5 : Option Value} (k : WP 92 47 [d0, d1, d2, d3, some (.ref r4), some (.null)] [] h Q) : WP 92 40 [d0, d1, d2, d3, some (.ref r4), d5] [.null] h Q :=
  WP.nx rfl (WP.nx rfl (WP.nx rfl (k)))
theorem B92_47 {h : pm_H} {Q : Option Value → pm_H → Prop} {r0 : Nat} {d1 : Option Value} {d2 : Option Value} {d3 : Option Value} {d4 : Option Value} {d5 : Option Value} (g1 : zT h r0 = 12) (k : WP 107 0 [some (.ref r0), some (.int (Int32.ofInt 1))] [] h (fun v1 h1 => WP 92 52 [some (.ref r0), d1, d2, d3, d4, d5] (v1.toList ++ []) h1 Q)) : WP 92 47 [some (.ref r0), d1, d2, d3, d4, d5] [] h Q :=
  WP.nx rfl (WP.nx rfl (WP.cl rfl g1 k))
theorem B92_52 {h : pm_H} {Q : Option Value → pm_H → Prop} {d0 : Option Value} {d1 : Option Value} {d2 : Option Value} {d3 : Option Value} {d4 : Option Value} {d5 : Option Value} {s0 : Int32} (k : Q (some (.int s0)) h) : WP 92 52 [d0, d1, d2, d3, d4, d5] [.int s0] h Q :=
  WP.rt rfl trivial k
theorem B92_53 {h : pm_H} {Q : Option Value → pm_H → Prop} {r0 : Nat} {d1 : Option Value} {d2 : Option Value} {x3 : Int32} {d4 : Option Value} {r5 : Nat} (g1 : zT h r0 = 12) (k : WP 116 0 [some (.ref r0), some (.ref r5), some (.int x3)] [] h (fun v1 h1 => WP 92 60 [some (.ref r0), d1, d2, some (.int x3), d4, some (.ref r5)] (v1.toList ++ []) h1 Q)) : WP 92 53 [some (.ref r0), d1, d2, some (.int x3), d4, some (.ref r5)] [] h Q :=
  WP.nx rfl (WP.nx rfl (WP.nx rfl (WP.cl rfl g1 k)))
theorem B92_60 {h : pm_H} {Q : Option Value → pm_H → Prop} {d0 : Option Value} {d1 : Option Value} {d2 : Option Value} {d3 : Option Value} {d4 : Option Value} {d5 : Option Value} {s0 : Int32} (k : Q (some (.int s0)) h) : WP 92 60 [d0, d1, d2, d3, d4, d5] [.int s0] h Q :=
  WP.rt rfl trivial k
/-! 93 StripCloth.at(III)I -/
theorem B93_0 {h : pm_H} {Q : Option Value → pm_H → Prop} {r0 : Nat} {x1 : Int32} {d2 : Option Value} {d3 : Option Value} {d4 : Option Value} {d5 : Option Value} {b2 : Nat} (g1 : zT h r0 = 12) (e3 : zR h r0 2 = some b2) (g4 : zT h b2 = 2) (k : WP 16 0 [some (.ref b2), some (.int x1)] [] h (fun v1 h1 => WP 93 8 [some (.ref r0), some (.int x1), d2, d3, d4, d5] (v1.toList ++ []) h1 Q)) : WP 93 0 [some (.ref r0), some (.int x1), d2, d3, d4, d5] [] h Q :=
  WP.nx rfl (WP.gd rfl g1 (WP.top (congrArg va_rf e3) (WP.nx rfl (WP.cl rfl g4 k))))
theorem B93_8 {h : pm_H} {Q : Option Value → pm_H → Prop} {d0 : Option Value} {d1 : Option Value} {d2 : Option Value} {x3 : Int32} {d4 : Option Value} {d5 : Option Value} {s0 : Nat} (k : WP 93 21 [d0, d1, d2, some (.int x3), some (.ref s0), d5] [] h Q) : WP 93 8 [d0, d1, d2, some (.int x3), d4, d5] [.ref s0] h Q :=
  WP.nx rfl (WP.nx rfl (WP.nx rfl (k)))
theorem B93_8n {h : pm_H} {Q : Option Value → pm_H → Prop} {d0 : Option Value} {d1 : Option Value} {d2 : Option Value} {x3 : Int32} {d4 : Option Value} {d5 : Option Value} (k : WP 93 15 [d0, d1, d2, some (.int x3), some (.null), d5] [] h Q) : WP 93 8 [d0, d1, d2, some (.int x3), d4, d5] [.null] h Q :=
  WP.nx rfl (WP.nx rfl (WP.nx rfl (k)))
theorem B93_15 {h : pm_H} {Q : Option Value → pm_H → Prop} {r0 : Nat} {d1 : Option Value} {d2 : Option Value} {d3 : Option Value} {d4 : Option Value} {d5 : Option Value} (g1 : zT h r0 = 12) (k : WP 107 0 [some (.ref r0), some (.int (Int32.ofInt 1))] [] h (fun v1 h1 => WP 93 20 [some (.ref r0), d1, d2, d3, d4, d5] (v1.toList ++ []) h1 Q)) : WP 93 15 [some (.ref r0), d1, d2, d3, d4, d5] [] h Q :=
  WP.nx rfl (WP.nx rfl (WP.cl rfl g1 k))
theorem B93_20 {h : pm_H} {Q : Option Value → pm_H → Prop} {d0 : Option Value} {d1 : Option Value} {d2 : Option Value} {d3 : Option Value} {d4 : Option Value} {d5 : Option Value} {s0 : Int32} (k : Q (some (.int s0)) h) : WP 93 20 [d0, d1, d2, d3, d4, d5] [.int s0] h Q :=
  WP.rt rfl trivial k
theorem B93_21 {h : pm_H} {Q : Option Value → pm_H → Prop} {d0 : Option Value} {d1 : Option Value} {x2 : Int32} {d3 : Option Value} {r4 : Nat} {d5 : Option Value} (g1 : zT h r4 = 3) (k : WP 21 0 [some (.ref r4), some (.int x2)] [] h (fun v1 h1 => WP 93 27 [d0, d1, some (.int x2), d3, some (.ref r4), d5] (v1.toList ++ []) h1 Q)) : WP 93 21 [d0, d1, some (.int x2), d3, some (.ref r4), d5] [] h Q :=
  WP.nx rfl (WP.nx rfl (WP.cl rfl g1 k))
theorem B93_27 {h : pm_H} {Q : Option Value → pm_H → Prop} {d0 : Option Value} {d1 : Option Value} {d2 : Option Value} {d3 : Option Value} {r4 : Nat} {d5 : Option Value} {s0 : Nat} (k : WP 93 40 [d0, d1, d2, d3, some (.ref r4), some (.ref s0)] [] h Q) : WP 93 27 [d0, d1, d2, d3, some (.ref r4), d5] [.ref s0] h Q :=
  WP.nx rfl (WP.nx rfl (WP.nx rfl (k)))
theorem B93_27n {h : pm_H} {Q : Option Value → pm_H → Prop} {d0 : Option Value} {d1 : Option Value} {d2 : Option Value} {d3 : Option Value} {r4 : Nat} {d5 : Option Value} (k : WP 93 34 [d0, d1, d2, d3, some (.ref r4), some (.null)] [] h Q) : WP 93 27 [d0, d1, d2, d3, some (.ref r4), d5] [.null] h Q :=
  WP.nx rfl (WP.nx rfl (WP.nx rfl (k)))
theorem B93_34 {h : pm_H} {Q : Option Value → pm_H → Prop} {r0 : Nat} {d1 : Option Value} {d2 : Option Value} {d3 : Option Value} {d4 : Option Value} {d5 : Option Value} (g1 : zT h r0 = 12) (k : WP 107 0 [some (.ref r0), some (.int (Int32.ofInt 1))] [] h (fun v1 h1 => WP 93 39 [some (.ref r0), d1, d2, d3, d4, d5] (v1.toList ++ []) h1 Q)) : WP 93 34 [some (.ref r0), d1, d2, d3, d4, d5] [] h Q :=
  WP.nx rfl (WP.nx rfl (WP.cl rfl g1 k))
theorem B93_39 {h : pm_H} {Q : Option Value → pm_H → Prop} {d0 : Option Value} {d1 : Option Value} {d2 : Option Value} {d3 : Option Value} {d4 : Option Value} {d5 : Option Value} {s0 : Int32} (k : Q (some (.int s0)) h) : WP 93 39 [d0, d1, d2, d3, d4, d5] [.int s0] h Q :=
  WP.rt rfl trivial k
theorem B93_40 {h : pm_H} {Q : Option Value → pm_H → Prop} {d0 : Option Value} {d1 : Option Value} {d2 : Option Value} {x3 : Int32} {d4 : Option Value} {d5 : Option Value} (kt : x3 < 0 → WP 93 51 [d0, d1, d2, some (.int x3), d4, d5] [] h Q) (kf : ¬ x3 < 0 → WP 93 44 [d0, d1, d2, some (.int x3), d4, d5] [] h Q) : WP 93 40 [d0, d1, d2, some (.int x3), d4, d5] [] h Q :=
  WP.nx rfl (WP.br rfl kt kf)
theorem B93_44 {h : pm_H} {Q : Option Value → pm_H → Prop} {d0 : Option Value} {d1 : Option Value} {d2 : Option Value} {x3 : Int32} {d4 : Option Value} {d5 : Option Value} (kt : x3 < (Int32.ofInt 500) → WP 93 57 [d0, d1, d2, some (.int x3), d4, d5] [] h Q) (kf : ¬ x3 < (Int32.ofInt 500) → WP 93 51 [d0, d1, d2, some (.int x3), d4, d5] [] h Q) : WP 93 44 [d0, d1, d2, some (.int x3), d4, d5] [] h Q :=
  WP.nx rfl (WP.nx rfl (WP.br rfl kt kf))
theorem B93_51 {h : pm_H} {Q : Option Value → pm_H → Prop} {r0 : Nat} {d1 : Option Value} {d2 : Option Value} {d3 : Option Value} {d4 : Option Value} {d5 : Option Value} (g1 : zT h r0 = 12) (k : WP 107 0 [some (.ref r0), some (.int (Int32.ofInt 2))] [] h (fun v1 h1 => WP 93 56 [some (.ref r0), d1, d2, d3, d4, d5] (v1.toList ++ []) h1 Q)) : WP 93 51 [some (.ref r0), d1, d2, d3, d4, d5] [] h Q :=
  WP.nx rfl (WP.nx rfl (WP.cl rfl g1 k))
theorem B93_56 {h : pm_H} {Q : Option Value → pm_H → Prop} {d0 : Option Value} {d1 : Option Value} {d2 : Option Value} {d3 : Option Value} {d4 : Option Value} {d5 : Option Value} {s0 : Int32} (k : Q (some (.int s0)) h) : WP 93 56 [d0, d1, d2, d3, d4, d5] [.int s0] h Q :=
  WP.rt rfl trivial k
theorem B93_57 {h : pm_H} {Q : Option Value → pm_H → Prop} {r0 : Nat} {d1 : Option Value} {d2 : Option Value} {x3 : Int32} {d4 : Option Value} {r5 : Nat} (g1 : zT h r5 = 5) (k : WP 30 0 [some (.ref r5), some (.int x3)] [] h (fun v1 h1 => WP 93 64 [some (.ref r0), d1, d2, some (.int x3), d4, some (.ref r5)] (v1.toList ++ [.ref r0]) h1 Q)) : WP 93 57 [some (.ref r0), d1, d2, some (.int x3), d4, some (.ref r5)] [] h Q :=
  WP.nx rfl (WP.nx rfl (WP.nx rfl (WP.cl rfl g1 k)))
theorem B93_64 {h : pm_H} {Q : Option Value → pm_H → Prop} {d0 : Option Value} {d1 : Option Value} {d2 : Option Value} {d3 : Option Value} {d4 : Option Value} {d5 : Option Value} {s0 : Nat} {s1 : Int32} (g1 : zT h s0 = 12) (k : WP 106 0 [some (.ref s0), some (.int s1)] [] h (fun v1 h1 => WP 93 67 [d0, d1, d2, d3, d4, d5] (v1.toList ++ []) h1 Q)) : WP 93 64 [d0, d1, d2, d3, d4, d5] [.int s1, .ref s0] h Q :=
  WP.cl rfl g1 k
theorem B93_67 {h : pm_H} {Q : Option Value → pm_H → Prop} {d0 : Option Value} {d1 : Option Value} {d2 : Option Value} {d3 : Option Value} {d4 : Option Value} {d5 : Option Value} {s0 : Int32} (k : Q (some (.int s0)) h) : WP 93 67 [d0, d1, d2, d3, d4, d5] [.int s0] h Q :=
  WP.rt rfl trivial k
/-! 94 StripCloth.seam(III)I -/
theorem B94_0 {h : pm_H} {Q : Option Value → pm_H → Prop} {r0 : Nat} {x1 : Int32} {d2 : Option Value} {d3 : Option Value} {d4 : Option Value} {b2 : Nat} (g1 : zT h r0 = 12) (e3 : zR h r0 2 = some b2) (g4 : zT h b2 = 2) (k : WP 16 0 [some (.ref b2), some (.int x1)] [] h (fun v1 h1 => WP 94 8 [some (.ref r0), some (.int x1), d2, d3, d4] (v1.toList ++ []) h1 Q)) : WP 94 0 [some (.ref r0), some (.int x1), d2, d3, d4] [] h Q :=
  WP.nx rfl (WP.gd rfl g1 (WP.top (congrArg va_rf e3) (WP.nx rfl (WP.cl rfl g4 k))))
theorem B94_8 {h : pm_H} {Q : Option Value → pm_H → Prop} {d0 : Option Value} {d1 : Option Value} {d2 : Option Value} {x3 : Int32} {d4 : Option Value} {s0 : Nat} (k : WP 94 15 [d0, d1, d2, some (.int x3), some (.ref s0)] [] h Q) : WP 94 8 [d0, d1, d2, some (.int x3), d4] [.ref s0] h Q :=
  WP.nx rfl (WP.nx rfl (WP.nx rfl (k)))
theorem B94_8n {h : pm_H} {Q : Option Value → pm_H → Prop} {d0 : Option Value} {d1 : Option Value} {d2 : Option Value} {x3 : Int32} {d4 : Option Value} (k : WP 94 30 [d0, d1, d2, some (.int x3), some (.null)] [] h Q) : WP 94 8 [d0, d1, d2, some (.int x3), d4] [.null] h Q :=
  WP.nx rfl (WP.nx rfl (WP.nx rfl (k)))
theorem B94_15 {h : pm_H} {Q : Option Value → pm_H → Prop} {d0 : Option Value} {d1 : Option Value} {x2 : Int32} {d3 : Option Value} {d4 : Option Value} (kt : x2 < 0 → WP 94 30 [d0, d1, some (.int x2), d3, d4] [] h Q) (kf : ¬ x2 < 0 → WP 94 19 [d0, d1, some (.int x2), d3, d4] [] h Q) : WP 94 15 [d0, d1, some (.int x2), d3, d4] [] h Q :=
  WP.nx rfl (WP.br rfl kt kf)
theorem B94_19 {h : pm_H} {Q : Option Value → pm_H → Prop} {d0 : Option Value} {d1 : Option Value} {x2 : Int32} {d3 : Option Value} {r4 : Nat} (g1 : zT h r4 = 3) (kt : x2 < ((zI h r4 2) - (Int32.ofInt 1)) → WP 94 36 [d0, d1, some (.int x2), d3, some (.ref r4)] [] h Q) (kf : ¬ x2 < ((zI h r4 2) - (Int32.ofInt 1)) → WP 94 30 [d0, d1, some (.int x2), d3, some (.ref r4)] [] h Q) : WP 94 19 [d0, d1, some (.int x2), d3, some (.ref r4)] [] h Q :=
  WP.nx rfl (WP.nx rfl (WP.gd rfl g1 (WP.nx rfl (WP.nx rfl (WP.br rfl kt kf)))))
theorem B94_30 {h : pm_H} {Q : Option Value → pm_H → Prop} {r0 : Nat} {d1 : Option Value} {d2 : Option Value} {d3 : Option Value} {d4 : Option Value} (g1 : zT h r0 = 12) (k : WP 107 0 [some (.ref r0), some (.int (Int32.ofInt 1))] [] h (fun v1 h1 => WP 94 35 [some (.ref r0), d1, d2, d3, d4] (v1.toList ++ []) h1 Q)) : WP 94 30 [some (.ref r0), d1, d2, d3, d4] [] h Q :=
  WP.nx rfl (WP.nx rfl (WP.cl rfl g1 k))
theorem B94_35 {h : pm_H} {Q : Option Value → pm_H → Prop} {d0 : Option Value} {d1 : Option Value} {d2 : Option Value} {d3 : Option Value} {d4 : Option Value} {s0 : Int32} (k : Q (some (.int s0)) h) : WP 94 35 [d0, d1, d2, d3, d4] [.int s0] h Q :=
  WP.rt rfl trivial k
theorem B94_36 {h : pm_H} {Q : Option Value → pm_H → Prop} {d0 : Option Value} {d1 : Option Value} {d2 : Option Value} {x3 : Int32} {d4 : Option Value} (kt : x3 < 0 → WP 94 45 [d0, d1, d2, some (.int x3), d4] [] h Q) (kf : ¬ x3 < 0 → WP 94 40 [d0, d1, d2, some (.int x3), d4] [] h Q) : WP 94 36 [d0, d1, d2, some (.int x3), d4] [] h Q :=
  WP.nx rfl (WP.br rfl kt kf)
theorem B94_40 {h : pm_H} {Q : Option Value → pm_H → Prop} {d0 : Option Value} {d1 : Option Value} {d2 : Option Value} {x3 : Int32} {d4 : Option Value} (kt : x3 ≤ (Int32.ofInt 2) → WP 94 51 [d0, d1, d2, some (.int x3), d4] [] h Q) (kf : ¬ x3 ≤ (Int32.ofInt 2) → WP 94 45 [d0, d1, d2, some (.int x3), d4] [] h Q) : WP 94 40 [d0, d1, d2, some (.int x3), d4] [] h Q :=
  WP.nx rfl (WP.nx rfl (WP.br rfl kt kf))
theorem B94_45 {h : pm_H} {Q : Option Value → pm_H → Prop} {r0 : Nat} {d1 : Option Value} {d2 : Option Value} {d3 : Option Value} {d4 : Option Value} (g1 : zT h r0 = 12) (k : WP 107 0 [some (.ref r0), some (.int (Int32.ofInt 2))] [] h (fun v1 h1 => WP 94 50 [some (.ref r0), d1, d2, d3, d4] (v1.toList ++ []) h1 Q)) : WP 94 45 [some (.ref r0), d1, d2, d3, d4] [] h Q :=
  WP.nx rfl (WP.nx rfl (WP.cl rfl g1 k))
theorem B94_50 {h : pm_H} {Q : Option Value → pm_H → Prop} {d0 : Option Value} {d1 : Option Value} {d2 : Option Value} {d3 : Option Value} {d4 : Option Value} {s0 : Int32} (k : Q (some (.int s0)) h) : WP 94 50 [d0, d1, d2, d3, d4] [.int s0] h Q :=
  WP.rt rfl trivial k
theorem B94_51 {h : pm_H} {Q : Option Value → pm_H → Prop} {r0 : Nat} {d1 : Option Value} {x2 : Int32} {d3 : Option Value} {r4 : Nat} {b2 : Nat} {b5 : Nat} {b8 : Nat} {b11 : Nat} (g1 : zT h r0 = 12) (e3 : zR h r0 3 = some b2) (g4 : zT h r4 = 3) (e6 : zR h r4 1 = some b5) (g7 : (zT h b5 = 103 ∨ zT h b5 = 104 ∨ zT h b5 = 105) ∧ vp_in x2 (zN h b5)) (e9 : zR h b5 (x2).toNatClampNeg = some b8) (g10 : (zT h b5 = 103 ∨ zT h b5 = 104 ∨ zT h b5 = 105) ∧ vp_in (x2 + (Int32.ofInt 1)) (zN h b5)) (e12 : zR h b5 ((x2 + (Int32.ofInt 1))).toNatClampNeg = some b11) (g13 : zT h b2 = 8) (k : WP 51 0 [some (.ref b2), some (.ref b8), some (.ref b11)] [] h (fun v1 h1 => WP 94 74 [some (.ref r0), d1, some (.int x2), d3, some (.ref r4)] (v1.toList ++ []) h1 Q)) : WP 94 51 [some (.ref r0), d1, some (.int x2), d3, some (.ref r4)] [] h Q :=
  WP.nx rfl (WP.gd rfl g1 (WP.top (congrArg va_rf e3) (WP.nx rfl (WP.gd rfl g4 (WP.top (congrArg va_rf e6) (WP.nx rfl (WP.gd rfl g7 (WP.top (congrArg va_rf e9) (WP.nx rfl (WP.gd rfl g4 (WP.top (congrArg va_rf e6) (WP.nx rfl (WP.nx rfl (WP.nx rfl (WP.gd rfl g10 (WP.top (congrArg va_rf e12) (WP.cl rfl g13 k)))))))))))))))))
theorem B94_74 {h : pm_H} {Q : Option Value → pm_H → Prop} {d0 : Option Value} {d1 : Option Value} {d2 : Option Value} {x3 : Int32} {d4 : Option Value} (k : WP 94 (pm_lsw [(0, 100), (1, 112)] 124 x3) [d0, d1, d2, some (.int x3), d4] [] h Q) : WP 94 74 [d0, d1, d2, some (.int x3), d4] [] h Q :=
  WP.nx rfl (WP.nx rfl (k))
theorem B94_100 {h : pm_H} {Q : Option Value → pm_H → Prop} {r0 : Nat} {d1 : Option Value} {d2 : Option Value} {d3 : Option Value} {d4 : Option Value} {b2 : Nat} (g1 : zT h r0 = 12) (e3 : zR h r0 3 = some b2) (g4 : zT h b2 = 8) (k : WP 106 0 [some (.ref r0), some (.int (zI h b2 0))] [] h (fun v1 h1 => WP 94 111 [some (.ref r0), d1, d2, d3, d4] (v1.toList ++ []) h1 Q)) : WP 94 100 [some (.ref r0), d1, d2, d3, d4] [] h Q :=
  WP.nx rfl (WP.nx rfl (WP.gd rfl g1 (WP.top (congrArg va_rf e3) (WP.gd rfl g4 (WP.cl rfl g1 k)))))
theorem B94_111 {h : pm_H} {Q : Option Value → pm_H → Prop} {d0 : Option Value} {d1 : Option Value} {d2 : Option Value} {d3 : Option Value} {d4 : Option Value} {s0 : Int32} (k : Q (some (.int s0)) h) : WP 94 111 [d0, d1, d2, d3, d4] [.int s0] h Q :=
  WP.rt rfl trivial k
theorem B94_112 {h : pm_H} {Q : Option Value → pm_H → Prop} {r0 : Nat} {d1 : Option Value} {d2 : Option Value} {d3 : Option Value} {d4 : Option Value} {b2 : Nat} (g1 : zT h r0 = 12) (e3 : zR h r0 3 = some b2) (g4 : zT h b2 = 8) (k : WP 106 0 [some (.ref r0), some (.int (zI h b2 1))] [] h (fun v1 h1 => WP 94 123 [some (.ref r0), d1, d2, d3, d4] (v1.toList ++ []) h1 Q)) : WP 94 112 [some (.ref r0), d1, d2, d3, d4] [] h Q :=
  WP.nx rfl (WP.nx rfl (WP.gd rfl g1 (WP.top (congrArg va_rf e3) (WP.gd rfl g4 (WP.cl rfl g1 k)))))
theorem B94_123 {h : pm_H} {Q : Option Value → pm_H → Prop} {d0 : Option Value} {d1 : Option Value} {d2 : Option Value} {d3 : Option Value} {d4 : Option Value} {s0 : Int32} (k : Q (some (.int s0)) h) : WP 94 123 [d0, d1, d2, d3, d4] [.int s0] h Q :=
  WP.rt rfl trivial k
theorem B94_124 {h : pm_H} {Q : Option Value → pm_H → Prop} {r0 : Nat} {d1 : Option Value} {d2 : Option Value} {d3 : Option Value} {d4 : Option Value} {b2 : Nat} (g1 : zT h r0 = 12) (e3 : zR h r0 3 = some b2) (g4 : zT h b2 = 8) (k : WP 52 0 [some (.ref b2)] [] h (fun v1 h1 => WP 94 132 [some (.ref r0), d1, d2, d3, d4] (v1.toList ++ [.ref r0]) h1 Q)) : WP 94 124 [some (.ref r0), d1, d2, d3, d4] [] h Q :=
  WP.nx rfl (WP.nx rfl (WP.gd rfl g1 (WP.top (congrArg va_rf e3) (WP.cl rfl g4 k))))
theorem B94_132 {h : pm_H} {Q : Option Value → pm_H → Prop} {d0 : Option Value} {d1 : Option Value} {d2 : Option Value} {d3 : Option Value} {d4 : Option Value} {s0 : Nat} {s1 : Int32} (g1 : zT h s0 = 12) (k : WP 106 0 [some (.ref s0), some (.int s1)] [] h (fun v1 h1 => WP 94 135 [d0, d1, d2, d3, d4] (v1.toList ++ []) h1 Q)) : WP 94 132 [d0, d1, d2, d3, d4] [.int s1, .ref s0] h Q :=
  WP.cl rfl g1 k
theorem B94_135 {h : pm_H} {Q : Option Value → pm_H → Prop} {d0 : Option Value} {d1 : Option Value} {d2 : Option Value} {d3 : Option Value} {d4 : Option Value} {s0 : Int32} (k : Q (some (.int s0)) h) : WP 94 135 [d0, d1, d2, d3, d4] [.int s0] h Q :=
  WP.rt rfl trivial k
/-! 95 StripCloth.shifts(II)I -/
theorem B95_0 {h : pm_H} {Q : Option Value → pm_H → Prop} {r0 : Nat} {x1 : Int32} {d2 : Option Value} {d3 : Option Value} {b2 : Nat} (g1 : zT h r0 = 12) (e3 : zR h r0 2 = some b2) (g4 : zT h b2 = 2) (k : WP 16 0 [some (.ref b2), some (.int x1)] [] h (fun v1 h1 => WP 95 8 [some (.ref r0), some (.int x1), d2, d3] (v1.toList ++ []) h1 Q)) : WP 95 0 [some (.ref r0), some (.int x1), d2, d3] [] h Q :=
  WP.nx rfl (WP.gd rfl g1 (WP.top (congrArg va_rf e3) (WP.nx rfl (WP.cl rfl g4 k))))
theorem B95_8 {h : pm_H} {Q : Option Value → pm_H → Prop} {d0 : Option Value} {d1 : Option Value} {x2 : Int32} {d3 : Option Value} {s0 : Nat} (k : WP 95 19 [d0, d1, some (.int x2), some (.ref s0)] [] h Q) : WP 95 8 [d0, d1, some (.int x2), d3] [.ref s0] h Q :=
  WP.nx rfl (WP.nx rfl (WP.nx rfl (k)))
theorem B95_8n {h : pm_H} {Q : Option Value → pm_H → Prop} {d0 : Option Value} {d1 : Option Value} {x2 : Int32} {d3 : Option Value} (k : WP 95 13 [d0, d1, some (.int x2), some (.null)] [] h Q) : WP 95 8 [d0, d1, some (.int x2), d3] [.null] h Q :=
  WP.nx rfl (WP.nx rfl (WP.nx rfl (k)))
theorem B95_13 {h : pm_H} {Q : Option Value → pm_H → Prop} {r0 : Nat} {d1 : Option Value} {d2 : Option Value} {d3 : Option Value} (g1 : zT h r0 = 12) (k : WP 107 0 [some (.ref r0), some (.int (Int32.ofInt 1))] [] h (fun v1 h1 => WP 95 18 [some (.ref r0), d1, d2, d3] (v1.toList ++ []) h1 Q)) : WP 95 13 [some (.ref r0), d1, d2, d3] [] h Q :=
  WP.nx rfl (WP.nx rfl (WP.cl rfl g1 k))
theorem B95_18 {h : pm_H} {Q : Option Value → pm_H → Prop} {d0 : Option Value} {d1 : Option Value} {d2 : Option Value} {d3 : Option Value} {s0 : Int32} (k : Q (some (.int s0)) h) : WP 95 18 [d0, d1, d2, d3] [.int s0] h Q :=
  WP.rt rfl trivial k
theorem B95_19 {h : pm_H} {Q : Option Value → pm_H → Prop} {d0 : Option Value} {d1 : Option Value} {x2 : Int32} {d3 : Option Value} (kt : x2 < 0 → WP 95 29 [d0, d1, some (.int x2), d3] [] h Q) (kf : ¬ x2 < 0 → WP 95 23 [d0, d1, some (.int x2), d3] [] h Q) : WP 95 19 [d0, d1, some (.int x2), d3] [] h Q :=
  WP.nx rfl (WP.br rfl kt kf)
theorem B95_23 {h : pm_H} {Q : Option Value → pm_H → Prop} {d0 : Option Value} {d1 : Option Value} {x2 : Int32} {d3 : Option Value} (kt : x2 ≤ (Int32.ofInt 20) → WP 95 35 [d0, d1, some (.int x2), d3] [] h Q) (kf : ¬ x2 ≤ (Int32.ofInt 20) → WP 95 29 [d0, d1, some (.int x2), d3] [] h Q) : WP 95 23 [d0, d1, some (.int x2), d3] [] h Q :=
  WP.nx rfl (WP.nx rfl (WP.br rfl kt kf))
theorem B95_29 {h : pm_H} {Q : Option Value → pm_H → Prop} {r0 : Nat} {d1 : Option Value} {d2 : Option Value} {d3 : Option Value} (g1 : zT h r0 = 12) (k : WP 107 0 [some (.ref r0), some (.int (Int32.ofInt 2))] [] h (fun v1 h1 => WP 95 34 [some (.ref r0), d1, d2, d3] (v1.toList ++ []) h1 Q)) : WP 95 29 [some (.ref r0), d1, d2, d3] [] h Q :=
  WP.nx rfl (WP.nx rfl (WP.cl rfl g1 k))
theorem B95_34 {h : pm_H} {Q : Option Value → pm_H → Prop} {d0 : Option Value} {d1 : Option Value} {d2 : Option Value} {d3 : Option Value} {s0 : Int32} (k : Q (some (.int s0)) h) : WP 95 34 [d0, d1, d2, d3] [.int s0] h Q :=
  WP.rt rfl trivial k
theorem B95_35 {h : pm_H} {Q : Option Value → pm_H → Prop} {r0 : Nat} {d1 : Option Value} {x2 : Int32} {r3 : Nat} {b3 : Nat} {b5 : Nat} {b7 : Nat} (g1 : zT h r3 = 3) (g2 : zT h r0 = 12) (e4 : zR h r0 4 = some b3) (e6 : zR h r0 3 = some b5) (e8 : zR h r0 9 = some b7) (g9 : zT h b3 = 1) (k : WP 8 0 [some (.ref b3), some (.ref r3), some (.int x2), some (.ref b5), some (.ref b7), none, none, none] [] (yI h r0 10 (zI h r3 2)) (fun v1 h1 => WP 95 61 [some (.ref r0), d1, some (.int x2), some (.ref r3)] (v1.toList ++ [.ref r0]) h1 Q)) : WP 95 35 [some (.ref r0), d1, some (.int x2), some (.ref r3)] [] h Q :=
  WP.nx rfl (WP.nx rfl (WP.gd rfl g1 (WP.gd rfl g2 (WP.nx rfl (WP.nx rfl (WP.gd rfl g2 (WP.top (congrArg va_rf e4) (WP.nx rfl (WP.nx rfl (WP.nx rfl (WP.gd rfl g2 (WP.top (congrArg va_rf e6) (WP.nx rfl (WP.gd rfl g2 (WP.top (congrArg va_rf e8) (WP.cl rfl g9 k))))))))))))))))
theorem B95_61 {h : pm_H} {Q : Option Value → pm_H → Prop} {d0 : Option Value} {d1 : Option Value} {d2 : Option Value} {d3 : Option Value} {s0 : Nat} {s1 : Int32} (g1 : zT h s0 = 12) (k : WP 106 0 [some (.ref s0), some (.int s1)] [] h (fun v1 h1 => WP 95 64 [d0, d1, d2, d3] (v1.toList ++ []) h1 Q)) : WP 95 61 [d0, d1, d2, d3] [.int s1, .ref s0] h Q :=
  WP.cl rfl g1 k
theorem B95_64 {h : pm_H} {Q : Option Value → pm_H → Prop} {d0 : Option Value} {d1 : Option Value} {d2 : Option Value} {d3 : Option Value} {s0 : Int32} (k : Q (some (.int s0)) h) : WP 95 64 [d0, d1, d2, d3] [.int s0] h Q :=
  WP.rt rfl trivial k
/-! 96 StripCloth.order(I)I -/
theorem B96_0 {h : pm_H} {Q : Option Value → pm_H → Prop} {r0 : Nat} {x1 : Int32} {d2 : Option Value} {b2 : Nat} (g1 : zT h r0 = 12) (e3 : zR h r0 2 = some b2) (g4 : zT h b2 = 2) (k : WP 16 0 [some (.ref b2), some (.int x1)] [] h (fun v1 h1 => WP 96 8 [some (.ref r0), some (.int x1), d2] (v1.toList ++ []) h1 Q)) : WP 96 0 [some (.ref r0), some (.int x1), d2] [] h Q :=
  WP.nx rfl (WP.gd rfl g1 (WP.top (congrArg va_rf e3) (WP.nx rfl (WP.cl rfl g4 k))))
theorem B96_8 {h : pm_H} {Q : Option Value → pm_H → Prop} {d0 : Option Value} {x1 : Int32} {d2 : Option Value} {s0 : Nat} (k : WP 96 19 [d0, some (.int x1), some (.ref s0)] [] h Q) : WP 96 8 [d0, some (.int x1), d2] [.ref s0] h Q :=
  WP.nx rfl (WP.nx rfl (WP.nx rfl (k)))
theorem B96_8n {h : pm_H} {Q : Option Value → pm_H → Prop} {d0 : Option Value} {x1 : Int32} {d2 : Option Value} (k : WP 96 13 [d0, some (.int x1), some (.null)] [] h Q) : WP 96 8 [d0, some (.int x1), d2] [.null] h Q :=
  WP.nx rfl (WP.nx rfl (WP.nx rfl (k)))
theorem B96_13 {h : pm_H} {Q : Option Value → pm_H → Prop} {r0 : Nat} {d1 : Option Value} {d2 : Option Value} (g1 : zT h r0 = 12) (k : WP 107 0 [some (.ref r0), some (.int (Int32.ofInt 1))] [] h (fun v1 h1 => WP 96 18 [some (.ref r0), d1, d2] (v1.toList ++ []) h1 Q)) : WP 96 13 [some (.ref r0), d1, d2] [] h Q :=
  WP.nx rfl (WP.nx rfl (WP.cl rfl g1 k))
theorem B96_18 {h : pm_H} {Q : Option Value → pm_H → Prop} {d0 : Option Value} {d1 : Option Value} {d2 : Option Value} {s0 : Int32} (k : Q (some (.int s0)) h) : WP 96 18 [d0, d1, d2] [.int s0] h Q :=
  WP.rt rfl trivial k
theorem B96_19 {h : pm_H} {Q : Option Value → pm_H → Prop} {d0 : Option Value} {d1 : Option Value} {r2 : Nat} (g1 : zT h r2 = 3) (kt : (zI h r2 2) ≤ (Int32.ofInt 8) → WP 96 35 [d0, d1, some (.ref r2)] [] h Q) (kf : ¬ (zI h r2 2) ≤ (Int32.ofInt 8) → WP 96 28 [d0, d1, some (.ref r2)] [] h Q) : WP 96 19 [d0, d1, some (.ref r2)] [] h Q :=
  WP.nx rfl (WP.gd rfl g1 (WP.nx rfl (WP.br rfl kt kf)))
theorem B96_28 {h : pm_H} {Q : Option Value → pm_H → Prop} {r0 : Nat} {d1 : Option Value} {d2 : Option Value} (g1 : zT h r0 = 12) (k : WP 107 0 [some (.ref r0), some (.int (Int32.ofInt 7))] [] h (fun v1 h1 => WP 96 34 [some (.ref r0), d1, d2] (v1.toList ++ []) h1 Q)) : WP 96 28 [some (.ref r0), d1, d2] [] h Q :=
  WP.nx rfl (WP.nx rfl (WP.cl rfl g1 k))
theorem B96_34 {h : pm_H} {Q : Option Value → pm_H → Prop} {d0 : Option Value} {d1 : Option Value} {d2 : Option Value} {s0 : Int32} (k : Q (some (.int s0)) h) : WP 96 34 [d0, d1, d2] [.int s0] h Q :=
  WP.rt rfl trivial k
theorem B96_35 {h : pm_H} {Q : Option Value → pm_H → Prop} {r0 : Nat} {d1 : Option Value} {r2 : Nat} {b3 : Nat} {b5 : Nat} {b7 : Nat} (g1 : zT h r2 = 3) (g2 : zT h r0 = 12) (e4 : zR h r0 5 = some b3) (e6 : zR h r0 3 = some b5) (e8 : zR h r0 9 = some b7) (g9 : zT h b3 = 0) (k : WP 1 0 [some (.ref b3), some (.ref r2), some (.ref b5), some (.ref b7), none, none, none, none, none] [] (yI h r0 10 (zI h r2 2)) (fun v1 h1 => WP 96 60 [some (.ref r0), d1, some (.ref r2)] (v1.toList ++ [.ref r0]) h1 Q)) : WP 96 35 [some (.ref r0), d1, some (.ref r2)] [] h Q :=
  WP.nx rfl (WP.nx rfl (WP.gd rfl g1 (WP.gd rfl g2 (WP.nx rfl (WP.nx rfl (WP.gd rfl g2 (WP.top (congrArg va_rf e4) (WP.nx rfl (WP.nx rfl (WP.gd rfl g2 (WP.top (congrArg va_rf e6) (WP.nx rfl (WP.gd rfl g2 (WP.top (congrArg va_rf e8) (WP.cl rfl g9 k)))))))))))))))
theorem B96_60 {h : pm_H} {Q : Option Value → pm_H → Prop} {d0 : Option Value} {d1 : Option Value} {d2 : Option Value} {s0 : Nat} {s1 : Int32} (g1 : zT h s0 = 12) (k : WP 106 0 [some (.ref s0), some (.int s1)] [] h (fun v1 h1 => WP 96 63 [d0, d1, d2] (v1.toList ++ []) h1 Q)) : WP 96 60 [d0, d1, d2] [.int s1, .ref s0] h Q :=
  WP.cl rfl g1 k
theorem B96_63 {h : pm_H} {Q : Option Value → pm_H → Prop} {d0 : Option Value} {d1 : Option Value} {d2 : Option Value} {s0 : Int32} (k : Q (some (.int s0)) h) : WP 96 63 [d0, d1, d2] [.int s0] h Q :=
  WP.rt rfl trivial k
/-! 97 StripCloth.out(I)I -/
theorem B97_0 {h : pm_H} {Q : Option Value → pm_H → Prop} {d0 : Option Value} {x1 : Int32} (kt : x1 < 0 → WP 97 12 [d0, some (.int x1)] [] h Q) (kf : ¬ x1 < 0 → WP 97 4 [d0, some (.int x1)] [] h Q) : WP 97 0 [d0, some (.int x1)] [] h Q :=
  WP.nx rfl (WP.br rfl kt kf)
theorem B97_4 {h : pm_H} {Q : Option Value → pm_H → Prop} {r0 : Nat} {x1 : Int32} (g1 : zT h r0 = 12) (kt : x1 < (zI h r0 10) → WP 97 14 [some (.ref r0), some (.int x1)] [] h Q) (kf : ¬ x1 < (zI h r0 10) → WP 97 12 [some (.ref r0), some (.int x1)] [] h Q) : WP 97 4 [some (.ref r0), some (.int x1)] [] h Q :=
  WP.nx rfl (WP.nx rfl (WP.gd rfl g1 (WP.br rfl kt kf)))
theorem B97_12 {h : pm_H} {Q : Option Value → pm_H → Prop} {d0 : Option Value} {d1 : Option Value} (k : Q (some (.int (Int32.ofInt (-1)))) h) : WP 97 12 [d0, d1] [] h Q :=
  WP.nx rfl (WP.rt rfl trivial k)
theorem B97_14 {h : pm_H} {Q : Option Value → pm_H → Prop} {r0 : Nat} {x1 : Int32} {b2 : Nat} (g1 : zT h r0 = 12) (e3 : zR h r0 9 = some b2) (g4 : zT h b2 = 100 ∧ vp_in x1 (zN h b2)) (k : Q (some (.int (zI h b2 (x1).toNatClampNeg))) h) : WP 97 14 [some (.ref r0), some (.int x1)] [] h Q :=
  WP.nx rfl (WP.gd rfl g1 (WP.top (congrArg va_rf e3) (WP.nx rfl (WP.gd rfl g4 (WP.rt rfl trivial k)))))
/-! 98 StripCloth.loom(II)Z -/
theorem B98_0 {h : pm_H} {Q : Option Value → pm_H → Prop} {d0 : Option Value} {x1 : Int32} {d2 : Option Value} (kt : x1 < (Int32.ofInt 1) → WP 98 22 [d0, some (.int x1), d2] [] h Q) (kf : ¬ x1 < (Int32.ofInt 1) → WP 98 5 [d0, some (.int x1), d2] [] h Q) : WP 98 0 [d0, some (.int x1), d2] [] h Q :=
  WP.nx rfl (WP.nx rfl (WP.br rfl kt kf))
theorem B98_5 {h : pm_H} {Q : Option Value → pm_H → Prop} {d0 : Option Value} {x1 : Int32} {d2 : Option Value} (kt : (Int32.ofInt 500) < x1 → WP 98 22 [d0, some (.int x1), d2] [] h Q) (kf : ¬ (Int32.ofInt 500) < x1 → WP 98 12 [d0, some (.int x1), d2] [] h Q) : WP 98 5 [d0, some (.int x1), d2] [] h Q :=
  WP.nx rfl (WP.nx rfl (WP.br rfl kt kf))
theorem B98_12 {h : pm_H} {Q : Option Value → pm_H → Prop} {d0 : Option Value} {d1 : Option Value} {x2 : Int32} (kt : x2 < 0 → WP 98 22 [d0, d1, some (.int x2)] [] h Q) (kf : ¬ x2 < 0 → WP 98 16 [d0, d1, some (.int x2)] [] h Q) : WP 98 12 [d0, d1, some (.int x2)] [] h Q :=
  WP.nx rfl (WP.br rfl kt kf)
theorem B98_16 {h : pm_H} {Q : Option Value → pm_H → Prop} {d0 : Option Value} {d1 : Option Value} {x2 : Int32} (kt : x2 ≤ (Int32.ofInt 50) → WP 98 28 [d0, d1, some (.int x2)] [] h Q) (kf : ¬ x2 ≤ (Int32.ofInt 50) → WP 98 22 [d0, d1, some (.int x2)] [] h Q) : WP 98 16 [d0, d1, some (.int x2)] [] h Q :=
  WP.nx rfl (WP.nx rfl (WP.br rfl kt kf))
theorem B98_22 {h : pm_H} {Q : Option Value → pm_H → Prop} {r0 : Nat} {d1 : Option Value} {d2 : Option Value} (g1 : zT h r0 = 12) (k : WP 109 0 [some (.ref r0), some (.int (Int32.ofInt 2))] [] h (fun v1 h1 => WP 98 27 [some (.ref r0), d1, d2] (v1.toList ++ []) h1 Q)) : WP 98 22 [some (.ref r0), d1, d2] [] h Q :=
  WP.nx rfl (WP.nx rfl (WP.cl rfl g1 k))
theorem B98_27 {h : pm_H} {Q : Option Value → pm_H → Prop} {d0 : Option Value} {d1 : Option Value} {d2 : Option Value} {s0 : Int32} (g1 : s0 = 0 ∨ s0 = 1) (k : Q (some (.int s0)) h) : WP 98 27 [d0, d1, d2] [.int s0] h Q :=
  WP.rt rfl g1 k
theorem B98_28 {h : pm_H} {Q : Option Value → pm_H → Prop} {r0 : Nat} {x1 : Int32} {x2 : Int32} (g1 : zT h r0 = 12) (k : WP 108 0 [some (.ref r0)] [] (yI (yI h r0 11 x1) r0 12 x2) (fun v1 h1 => WP 98 42 [some (.ref r0), some (.int x1), some (.int x2)] (v1.toList ++ []) h1 Q)) : WP 98 28 [some (.ref r0), some (.int x1), some (.int x2)] [] h Q :=
  WP.nx rfl (WP.nx rfl (WP.gd rfl g1 (WP.nx rfl (WP.nx rfl (WP.gd rfl g1 (WP.nx rfl (WP.cl rfl g1 k)))))))
theorem B98_42 {h : pm_H} {Q : Option Value → pm_H → Prop} {d0 : Option Value} {d1 : Option Value} {d2 : Option Value} {s0 : Int32} (g1 : s0 = 0 ∨ s0 = 1) (k : Q (some (.int s0)) h) : WP 98 42 [d0, d1, d2] [.int s0] h Q :=
  WP.rt rfl g1 k
/-! 99 StripCloth.yarn(II)I -/
theorem B99_0 {h : pm_H} {Q : Option Value → pm_H → Prop} {r0 : Nat} {x1 : Int32} {d2 : Option Value} {d3 : Option Value} {b2 : Nat} (g1 : zT h r0 = 12) (e3 : zR h r0 2 = some b2) (g4 : zT h b2 = 2) (k : WP 15 0 [some (.ref b2), some (.int x1)] [] h (fun v1 h1 => WP 99 8 [some (.ref r0), some (.int x1), d2, d3] (v1.toList ++ []) h1 Q)) : WP 99 0 [some (.ref r0), some (.int x1), d2, d3] [] h Q :=
  WP.nx rfl (WP.gd rfl g1 (WP.top (congrArg va_rf e3) (WP.nx rfl (WP.cl rfl g4 k))))
theorem B99_8 {h : pm_H} {Q : Option Value → pm_H → Prop} {d0 : Option Value} {d1 : Option Value} {x2 : Int32} {d3 : Option Value} {s0 : Nat} (k : WP 99 19 [d0, d1, some (.int x2), some (.ref s0)] [] h Q) : WP 99 8 [d0, d1, some (.int x2), d3] [.ref s0] h Q :=
  WP.nx rfl (WP.nx rfl (WP.nx rfl (k)))
theorem B99_8n {h : pm_H} {Q : Option Value → pm_H → Prop} {d0 : Option Value} {d1 : Option Value} {x2 : Int32} {d3 : Option Value} (k : WP 99 13 [d0, d1, some (.int x2), some (.null)] [] h Q) : WP 99 8 [d0, d1, some (.int x2), d3] [.null] h Q :=
  WP.nx rfl (WP.nx rfl (WP.nx rfl (k)))
theorem B99_13 {h : pm_H} {Q : Option Value → pm_H → Prop} {r0 : Nat} {d1 : Option Value} {d2 : Option Value} {d3 : Option Value} (g1 : zT h r0 = 12) (k : WP 107 0 [some (.ref r0), some (.int (Int32.ofInt 1))] [] h (fun v1 h1 => WP 99 18 [some (.ref r0), d1, d2, d3] (v1.toList ++ []) h1 Q)) : WP 99 13 [some (.ref r0), d1, d2, d3] [] h Q :=
  WP.nx rfl (WP.nx rfl (WP.cl rfl g1 k))
theorem B99_18 {h : pm_H} {Q : Option Value → pm_H → Prop} {d0 : Option Value} {d1 : Option Value} {d2 : Option Value} {d3 : Option Value} {s0 : Int32} (k : Q (some (.int s0)) h) : WP 99 18 [d0, d1, d2, d3] [.int s0] h Q :=
  WP.rt rfl trivial k
theorem B99_19 {h : pm_H} {Q : Option Value → pm_H → Prop} {d0 : Option Value} {d1 : Option Value} {x2 : Int32} {d3 : Option Value} (k : WP 110 0 [some (.int x2)] [] h (fun v1 h1 => WP 99 23 [d0, d1, some (.int x2), d3] (v1.toList ++ []) h1 Q)) : WP 99 19 [d0, d1, some (.int x2), d3] [] h Q :=
  WP.nx rfl (WP.cl rfl trivial k)
theorem B99_23 {h : pm_H} {Q : Option Value → pm_H → Prop} {d0 : Option Value} {d1 : Option Value} {d2 : Option Value} {d3 : Option Value} {s0 : Int32} (kt : s0 = 0 → WP 99 32 [d0, d1, d2, d3] [] h Q) (kf : ¬ s0 = 0 → WP 99 26 [d0, d1, d2, d3] [] h Q) : WP 99 23 [d0, d1, d2, d3] [.int s0] h Q :=
  WP.br rfl kt kf
theorem B99_26 {h : pm_H} {Q : Option Value → pm_H → Prop} {r0 : Nat} {d1 : Option Value} {d2 : Option Value} {d3 : Option Value} (g1 : zT h r0 = 12) (k : WP 107 0 [some (.ref r0), some (.int (Int32.ofInt 2))] [] h (fun v1 h1 => WP 99 31 [some (.ref r0), d1, d2, d3] (v1.toList ++ []) h1 Q)) : WP 99 26 [some (.ref r0), d1, d2, d3] [] h Q :=
  WP.nx rfl (WP.nx rfl (WP.cl rfl g1 k))
theorem B99_31 {h : pm_H} {Q : Option Value → pm_H → Prop} {d0 : Option Value} {d1 : Option Value} {d2 : Option Value} {d3 : Option Value} {s0 : Int32} (k : Q (some (.int s0)) h) : WP 99 31 [d0, d1, d2, d3] [.int s0] h Q :=
  WP.rt rfl trivial k
theorem B99_32 {h : pm_H} {Q : Option Value → pm_H → Prop} {r0 : Nat} {d1 : Option Value} {x2 : Int32} {r3 : Nat} (g1 : zT h r0 = 12) (k : WP 117 0 [some (.ref r0), some (.ref r3), some (.int x2), none] [] h (fun v1 h1 => WP 99 39 [some (.ref r0), d1, some (.int x2), some (.ref r3)] (v1.toList ++ [.ref r0]) h1 Q)) : WP 99 32 [some (.ref r0), d1, some (.int x2), some (.ref r3)] [] h Q :=
  WP.nx rfl (WP.nx rfl (WP.nx rfl (WP.nx rfl (WP.cl rfl g1 k))))
theorem B99_39 {h : pm_H} {Q : Option Value → pm_H → Prop} {d0 : Option Value} {d1 : Option Value} {d2 : Option Value} {d3 : Option Value} {s0 : Nat} {s1 : Int32} (g1 : zT h s0 = 12) (k : WP 106 0 [some (.ref s0), some (.int s1)] [] h (fun v1 h1 => WP 99 42 [d0, d1, d2, d3] (v1.toList ++ []) h1 Q)) : WP 99 39 [d0, d1, d2, d3] [.int s1, .ref s0] h Q :=
  WP.cl rfl g1 k
theorem B99_42 {h : pm_H} {Q : Option Value → pm_H → Prop} {d0 : Option Value} {d1 : Option Value} {d2 : Option Value} {d3 : Option Value} {s0 : Int32} (k : Q (some (.int s0)) h) : WP 99 42 [d0, d1, d2, d3] [.int s0] h Q :=
  WP.rt rfl trivial k
/-! 100 StripCloth.lot(II)I -/
theorem B100_0 {h : pm_H} {Q : Option Value → pm_H → Prop} {d0 : Option Value} {x1 : Int32} {d2 : Option Value} (k : WP 110 0 [some (.int x1)] [] h (fun v1 h1 => WP 100 4 [d0, some (.int x1), d2] (v1.toList ++ []) h1 Q)) : WP 100 0 [d0, some (.int x1), d2] [] h Q :=
  WP.nx rfl (WP.cl rfl trivial k)
theorem B100_4 {h : pm_H} {Q : Option Value → pm_H → Prop} {d0 : Option Value} {d1 : Option Value} {d2 : Option Value} {s0 : Int32} (kt : ¬ s0 = 0 → WP 100 14 [d0, d1, d2] [] h Q) (kf : s0 = 0 → WP 100 7 [d0, d1, d2] [] h Q) : WP 100 4 [d0, d1, d2] [.int s0] h Q :=
  WP.br rfl kt (fun q => kf (Decidable.not_not.mp q))
theorem B100_7 {h : pm_H} {Q : Option Value → pm_H → Prop} {d0 : Option Value} {d1 : Option Value} {x2 : Int32} (k : WP 111 0 [some (.int x2)] [] h (fun v1 h1 => WP 100 11 [d0, d1, some (.int x2)] (v1.toList ++ []) h1 Q)) : WP 100 7 [d0, d1, some (.int x2)] [] h Q :=
  WP.nx rfl (WP.cl rfl trivial k)
theorem B100_11 {h : pm_H} {Q : Option Value → pm_H → Prop} {d0 : Option Value} {d1 : Option Value} {d2 : Option Value} {s0 : Int32} (kt : s0 = 0 → WP 100 20 [d0, d1, d2] [] h Q) (kf : ¬ s0 = 0 → WP 100 14 [d0, d1, d2] [] h Q) : WP 100 11 [d0, d1, d2] [.int s0] h Q :=
  WP.br rfl kt kf
theorem B100_14 {h : pm_H} {Q : Option Value → pm_H → Prop} {r0 : Nat} {d1 : Option Value} {d2 : Option Value} (g1 : zT h r0 = 12) (k : WP 107 0 [some (.ref r0), some (.int (Int32.ofInt 2))] [] h (fun v1 h1 => WP 100 19 [some (.ref r0), d1, d2] (v1.toList ++ []) h1 Q)) : WP 100 14 [some (.ref r0), d1, d2] [] h Q :=
  WP.nx rfl (WP.nx rfl (WP.cl rfl g1 k))
theorem B100_19 {h : pm_H} {Q : Option Value → pm_H → Prop} {d0 : Option Value} {d1 : Option Value} {d2 : Option Value} {s0 : Int32} (k : Q (some (.int s0)) h) : WP 100 19 [d0, d1, d2] [.int s0] h Q :=
  WP.rt rfl trivial k
theorem B100_20 {h : pm_H} {Q : Option Value → pm_H → Prop} {r0 : Nat} {d1 : Option Value} {d2 : Option Value} {b2 : Nat} (g1 : zT h r0 = 12) (e3 : zR h r0 6 = some b2) (g4 : zT h b2 = 4) (kt : (zI h b2 2) < (Int32.ofInt 6) → WP 100 38 [some (.ref r0), d1, d2] [] h Q) (kf : ¬ (zI h b2 2) < (Int32.ofInt 6) → WP 100 32 [some (.ref r0), d1, d2] [] h Q) : WP 100 20 [some (.ref r0), d1, d2] [] h Q :=
  WP.nx rfl (WP.gd rfl g1 (WP.top (congrArg va_rf e3) (WP.gd rfl g4 (WP.nx rfl (WP.br rfl kt kf)))))
theorem B100_32 {h : pm_H} {Q : Option Value → pm_H → Prop} {r0 : Nat} {d1 : Option Value} {d2 : Option Value} (g1 : zT h r0 = 12) (k : WP 107 0 [some (.ref r0), some (.int (Int32.ofInt 3))] [] h (fun v1 h1 => WP 100 37 [some (.ref r0), d1, d2] (v1.toList ++ []) h1 Q)) : WP 100 32 [some (.ref r0), d1, d2] [] h Q :=
  WP.nx rfl (WP.nx rfl (WP.cl rfl g1 k))
theorem B100_37 {h : pm_H} {Q : Option Value → pm_H → Prop} {d0 : Option Value} {d1 : Option Value} {d2 : Option Value} {s0 : Int32} (k : Q (some (.int s0)) h) : WP 100 37 [d0, d1, d2] [.int s0] h Q :=
  WP.rt rfl trivial k
theorem B100_38 {h : pm_H} {Q : Option Value → pm_H → Prop} {r0 : Nat} {x1 : Int32} {x2 : Int32} {b2 : Nat} (g1 : zT h r0 = 12) (e3 : zR h r0 6 = some b2) (g4 : zT h b2 = 4) (k : WP 24 0 [some (.ref b2), some (.int x1), some (.int x2)] [] h (fun v1 h1 => WP 100 48 [some (.ref r0), some (.int x1), some (.int x2)] (v1.toList ++ [.ref r0]) h1 Q)) : WP 100 38 [some (.ref r0), some (.int x1), some (.int x2)] [] h Q :=
  WP.nx rfl (WP.nx rfl (WP.gd rfl g1 (WP.top (congrArg va_rf e3) (WP.nx rfl (WP.nx rfl (WP.cl rfl g4 k))))))
theorem B100_48 {h : pm_H} {Q : Option Value → pm_H → Prop} {d0 : Option Value} {d1 : Option Value} {d2 : Option Value} {s0 : Nat} {s1 : Int32} (g1 : zT h s0 = 12) (k : WP 106 0 [some (.ref s0), some (.int s1)] [] h (fun v1 h1 => WP 100 51 [d0, d1, d2] (v1.toList ++ []) h1 Q)) : WP 100 48 [d0, d1, d2] [.int s1, .ref s0] h Q :=
  WP.cl rfl g1 k
theorem B100_51 {h : pm_H} {Q : Option Value → pm_H → Prop} {d0 : Option Value} {d1 : Option Value} {d2 : Option Value} {s0 : Int32} (k : Q (some (.int s0)) h) : WP 100 51 [d0, d1, d2] [.int s0] h Q :=
  WP.rt rfl trivial k
/-! 101 StripCloth.stock(II)Z -/
theorem B101_0 {h : pm_H} {Q : Option Value → pm_H → Prop} {d0 : Option Value} {x1 : Int32} {d2 : Option Value} (kt : x1 < 0 → WP 101 15 [d0, some (.int x1), d2] [] h Q) (kf : ¬ x1 < 0 → WP 101 4 [d0, some (.int x1), d2] [] h Q) : WP 101 0 [d0, some (.int x1), d2] [] h Q :=
  WP.nx rfl (WP.br rfl kt kf)
theorem B101_4 {h : pm_H} {Q : Option Value → pm_H → Prop} {r0 : Nat} {x1 : Int32} {d2 : Option Value} {b2 : Nat} (g1 : zT h r0 = 12) (e3 : zR h r0 6 = some b2) (g4 : zT h b2 = 4) (kt : x1 < (zI h b2 2) → WP 101 21 [some (.ref r0), some (.int x1), d2] [] h Q) (kf : ¬ x1 < (zI h b2 2) → WP 101 15 [some (.ref r0), some (.int x1), d2] [] h Q) : WP 101 4 [some (.ref r0), some (.int x1), d2] [] h Q :=
  WP.nx rfl (WP.nx rfl (WP.gd rfl g1 (WP.top (congrArg va_rf e3) (WP.gd rfl g4 (WP.br rfl kt kf)))))
theorem B101_15 {h : pm_H} {Q : Option Value → pm_H → Prop} {r0 : Nat} {d1 : Option Value} {d2 : Option Value} (g1 : zT h r0 = 12) (k : WP 109 0 [some (.ref r0), some (.int (Int32.ofInt 1))] [] h (fun v1 h1 => WP 101 20 [some (.ref r0), d1, d2] (v1.toList ++ []) h1 Q)) : WP 101 15 [some (.ref r0), d1, d2] [] h Q :=
  WP.nx rfl (WP.nx rfl (WP.cl rfl g1 k))
theorem B101_20 {h : pm_H} {Q : Option Value → pm_H → Prop} {d0 : Option Value} {d1 : Option Value} {d2 : Option Value} {s0 : Int32} (g1 : s0 = 0 ∨ s0 = 1) (k : Q (some (.int s0)) h) : WP 101 20 [d0, d1, d2] [.int s0] h Q :=
  WP.rt rfl g1 k
theorem B101_21 {h : pm_H} {Q : Option Value → pm_H → Prop} {d0 : Option Value} {d1 : Option Value} {x2 : Int32} (k : WP 111 0 [some (.int x2)] [] h (fun v1 h1 => WP 101 25 [d0, d1, some (.int x2)] (v1.toList ++ []) h1 Q)) : WP 101 21 [d0, d1, some (.int x2)] [] h Q :=
  WP.nx rfl (WP.cl rfl trivial k)
theorem B101_25 {h : pm_H} {Q : Option Value → pm_H → Prop} {d0 : Option Value} {d1 : Option Value} {d2 : Option Value} {s0 : Int32} (kt : s0 = 0 → WP 101 34 [d0, d1, d2] [] h Q) (kf : ¬ s0 = 0 → WP 101 28 [d0, d1, d2] [] h Q) : WP 101 25 [d0, d1, d2] [.int s0] h Q :=
  WP.br rfl kt kf
theorem B101_28 {h : pm_H} {Q : Option Value → pm_H → Prop} {r0 : Nat} {d1 : Option Value} {d2 : Option Value} (g1 : zT h r0 = 12) (k : WP 109 0 [some (.ref r0), some (.int (Int32.ofInt 2))] [] h (fun v1 h1 => WP 101 33 [some (.ref r0), d1, d2] (v1.toList ++ []) h1 Q)) : WP 101 28 [some (.ref r0), d1, d2] [] h Q :=
  WP.nx rfl (WP.nx rfl (WP.cl rfl g1 k))
theorem B101_33 {h : pm_H} {Q : Option Value → pm_H → Prop} {d0 : Option Value} {d1 : Option Value} {d2 : Option Value} {s0 : Int32} (g1 : s0 = 0 ∨ s0 = 1) (k : Q (some (.int s0)) h) : WP 101 33 [d0, d1, d2] [.int s0] h Q :=
  WP.rt rfl g1 k
theorem B101_34 {h : pm_H} {Q : Option Value → pm_H → Prop} {r0 : Nat} {x1 : Int32} {x2 : Int32} {b2 : Nat} {b5 : Nat} (g1 : zT h r0 = 12) (e3 : zR h r0 6 = some b2) (g4 : zT h b2 = 4) (e6 : zR h b2 1 = some b5) (g7 : zT h b5 = 100 ∧ vp_in x1 (zN h b5)) (k : WP 108 0 [some (.ref r0)] [] (yI h b5 (x1).toNatClampNeg x2) (fun v1 h1 => WP 101 48 [some (.ref r0), some (.int x1), some (.int x2)] (v1.toList ++ []) h1 Q)) : WP 101 34 [some (.ref r0), some (.int x1), some (.int x2)] [] h Q :=
  WP.nx rfl (WP.gd rfl g1 (WP.top (congrArg va_rf e3) (WP.gd rfl g4 (WP.top (congrArg va_rf e6) (WP.nx rfl (WP.nx rfl (WP.gd rfl g7 (WP.nx rfl (WP.cl rfl g1 k)))))))))
theorem B101_48 {h : pm_H} {Q : Option Value → pm_H → Prop} {d0 : Option Value} {d1 : Option Value} {d2 : Option Value} {s0 : Int32} (g1 : s0 = 0 ∨ s0 = 1) (k : Q (some (.int s0)) h) : WP 101 48 [d0, d1, d2] [.int s0] h Q :=
  WP.rt rfl g1 k
/-! 102 StripCloth.dye(II)I -/
theorem B102_0 {h : pm_H} {Q : Option Value → pm_H → Prop} {r0 : Nat} {x1 : Int32} {d2 : Option Value} {d3 : Option Value} {d4 : Option Value} {d5 : Option Value} {b2 : Nat} (g1 : zT h r0 = 12) (e3 : zR h r0 2 = some b2) (g4 : zT h b2 = 2) (k : WP 16 0 [some (.ref b2), some (.int x1)] [] h (fun v1 h1 => WP 102 8 [some (.ref r0), some (.int x1), d2, d3, d4, d5] (v1.toList ++ []) h1 Q)) : WP 102 0 [some (.ref r0), some (.int x1), d2, d3, d4, d5] [] h Q :=
  WP.nx rfl (WP.gd rfl g1 (WP.top (congrArg va_rf e3) (WP.nx rfl (WP.cl rfl g4 k))))
theorem B102_8 {h : pm_H} {Q : Option Value → pm_H → Prop} {d0 : Option Value} {d1 : Option Value} {x2 : Int32} {d3 : Option Value} {d4 : Option Value} {d5 : Option Value} {s0 : Nat} (k : WP 102 19 [d0, d1, some (.int x2), some (.ref s0), d4, d5] [] h Q) : WP 102 8 [d0, d1, some (.int x2), d3, d4, d5] [.ref s0] h Q :=
  WP.nx rfl (WP.nx rfl (WP.nx rfl (k)))
theorem B102_8n {h : pm_H} {Q : Option Value → pm_H → Prop} {d0 : Option Value} {d1 : Option Value} {x2 : Int32} {d3 : Option Value} {d4 : Option Value} {d5 : Option Value} (k : WP 102 13 [d0, d1, some (.int x2), some (.null), d4, d5] [] h Q) : WP 102 8 [d0, d1, some (.int x2), d3, d4, d5] [.null] h Q :=
  WP.nx rfl (WP.nx rfl (WP.nx rfl (k)))
theorem B102_13 {h : pm_H} {Q : Option Value → pm_H → Prop} {r0 : Nat} {d1 : Option Value} {d2 : Option Value} {d3 : Option Value} {d4 : Option Value} {d5 : Option Value} (g1 : zT h r0 = 12) (k : WP 107 0 [some (.ref r0), some (.int (Int32.ofInt 1))] [] h (fun v1 h1 => WP 102 18 [some (.ref r0), d1, d2, d3, d4, d5] (v1.toList ++ []) h1 Q)) : WP 102 13 [some (.ref r0), d1, d2, d3, d4, d5] [] h Q :=
  WP.nx rfl (WP.nx rfl (WP.cl rfl g1 k))
theorem B102_18 {h : pm_H} {Q : Option Value → pm_H → Prop} {d0 : Option Value} {d1 : Option Value} {d2 : Option Value} {d3 : Option Value} {d4 : Option Value} {d5 : Option Value} {s0 : Int32} (k : Q (some (.int s0)) h) : WP 102 18 [d0, d1, d2, d3, d4, d5] [.int s0] h Q :=
  WP.rt rfl trivial k
theorem B102_19 {h : pm_H} {Q : Option Value → pm_H → Prop} {d0 : Option Value} {d1 : Option Value} {x2 : Int32} {d3 : Option Value} {d4 : Option Value} {d5 : Option Value} (k : WP 110 0 [some (.int x2)] [] h (fun v1 h1 => WP 102 23 [d0, d1, some (.int x2), d3, d4, d5] (v1.toList ++ []) h1 Q)) : WP 102 19 [d0, d1, some (.int x2), d3, d4, d5] [] h Q :=
  WP.nx rfl (WP.cl rfl trivial k)
theorem B102_23 {h : pm_H} {Q : Option Value → pm_H → Prop} {d0 : Option Value} {d1 : Option Value} {d2 : Option Value} {d3 : Option Value} {d4 : Option Value} {d5 : Option Value} {s0 : Int32} (kt : s0 = 0 → WP 102 32 [d0, d1, d2, d3, d4, d5] [] h Q) (kf : ¬ s0 = 0 → WP 102 26 [d0, d1, d2, d3, d4, d5] [] h Q) : WP 102 23 [d0, d1, d2, d3, d4, d5] [.int s0] h Q :=
  WP.br rfl kt kf
theorem B102_26 {h : pm_H} {Q : Option Value → pm_H → Prop} {r0 : Nat} {d1 : Option Value} {d2 : Option Value} {d3 : Option Value} {d4 : Option Value} {d5 : Option Value} (g1 : zT h r0 = 12) (k : WP 107 0 [some (.ref r0), some (.int (Int32.ofInt 2))] [] h (fun v1 h1 => WP 102 31 [some (.ref r0), d1, d2, d3, d4, d5] (v1.toList ++ []) h1 Q)) : WP 102 26 [some (.ref r0), d1, d2, d3, d4, d5] [] h Q :=
  WP.nx rfl (WP.nx rfl (WP.cl rfl g1 k))
theorem B102_31 {h : pm_H} {Q : Option Value → pm_H → Prop} {d0 : Option Value} {d1 : Option Value} {d2 : Option Value} {d3 : Option Value} {d4 : Option Value} {d5 : Option Value} {s0 : Int32} (k : Q (some (.int s0)) h) : WP 102 31 [d0, d1, d2, d3, d4, d5] [.int s0] h Q :=
  WP.rt rfl trivial k
theorem B102_32 {h : pm_H} {Q : Option Value → pm_H → Prop} {r0 : Nat} {d1 : Option Value} {x2 : Int32} {r3 : Nat} {d4 : Option Value} {d5 : Option Value} (g1 : zT h r0 = 12) (k : WP 118 0 [some (.ref r0), some (.ref r3), some (.int x2), none, none, none] [] h (fun v1 h1 => WP 102 38 [some (.ref r0), d1, some (.int x2), some (.ref r3), d4, d5] (v1.toList ++ []) h1 Q)) : WP 102 32 [some (.ref r0), d1, some (.int x2), some (.ref r3), d4, d5] [] h Q :=
  WP.nx rfl (WP.nx rfl (WP.nx rfl (WP.cl rfl g1 k)))
theorem B102_38 {h : pm_H} {Q : Option Value → pm_H → Prop} {d0 : Option Value} {d1 : Option Value} {d2 : Option Value} {r3 : Nat} {d4 : Option Value} {d5 : Option Value} {s0 : Int32} (kt : ¬ s0 = 0 → WP 102 51 [d0, d1, d2, some (.ref r3), some (.int s0), d5] [] h Q) (kf : s0 = 0 → WP 102 45 [d0, d1, d2, some (.ref r3), some (.int s0), d5] [] h Q) : WP 102 38 [d0, d1, d2, some (.ref r3), d4, d5] [.int s0] h Q :=
  WP.nx rfl (WP.nx rfl (WP.br rfl kt (fun q => kf (Decidable.not_not.mp q))))
theorem B102_45 {h : pm_H} {Q : Option Value → pm_H → Prop} {r0 : Nat} {d1 : Option Value} {d2 : Option Value} {d3 : Option Value} {d4 : Option Value} {d5 : Option Value} (g1 : zT h r0 = 12) (k : WP 107 0 [some (.ref r0), some (.int (Int32.ofInt 5))] [] h (fun v1 h1 => WP 102 50 [some (.ref r0), d1, d2, d3, d4, d5] (v1.toList ++ []) h1 Q)) : WP 102 45 [some (.ref r0), d1, d2, d3, d4, d5] [] h Q :=
  WP.nx rfl (WP.nx rfl (WP.cl rfl g1 k))
theorem B102_50 {h : pm_H} {Q : Option Value → pm_H → Prop} {d0 : Option Value} {d1 : Option Value} {d2 : Option Value} {d3 : Option Value} {d4 : Option Value} {d5 : Option Value} {s0 : Int32} (k : Q (some (.int s0)) h) : WP 102 50 [d0, d1, d2, d3, d4, d5] [.int s0] h Q :=
  WP.rt rfl trivial k
theorem B102_51 {h : pm_H} {Q : Option Value → pm_H → Prop} {d0 : Option Value} {d1 : Option Value} {d2 : Option Value} {d3 : Option Value} {x4 : Int32} {d5 : Option Value} (kt : x4 ≤ (Int32.ofInt 8) → WP 102 65 [d0, d1, d2, d3, some (.int x4), d5] [] h Q) (kf : ¬ x4 ≤ (Int32.ofInt 8) → WP 102 58 [d0, d1, d2, d3, some (.int x4), d5] [] h Q) : WP 102 51 [d0, d1, d2, d3, some (.int x4), d5] [] h Q :=
  WP.nx rfl (WP.nx rfl (WP.br rfl kt kf))
theorem B102_58 {h : pm_H} {Q : Option Value → pm_H → Prop} {r0 : Nat} {d1 : Option Value} {d2 : Option Value} {d3 : Option Value} {d4 : Option Value} {d5 : Option Value} (g1 : zT h r0 = 12) (k : WP 107 0 [some (.ref r0), some (.int (Int32.ofInt 7))] [] h (fun v1 h1 => WP 102 64 [some (.ref r0), d1, d2, d3, d4, d5] (v1.toList ++ []) h1 Q)) : WP 102 58 [some (.ref r0), d1, d2, d3, d4, d5] [] h Q :=
  WP.nx rfl (WP.nx rfl (WP.cl rfl g1 k))
theorem B102_64 {h : pm_H} {Q : Option Value → pm_H → Prop} {d0 : Option Value} {d1 : Option Value} {d2 : Option Value} {d3 : Option Value} {d4 : Option Value} {d5 : Option Value} {s0 : Int32} (k : Q (some (.int s0)) h) : WP 102 64 [d0, d1, d2, d3, d4, d5] [.int s0] h Q :=
  WP.rt rfl trivial k
theorem B102_65 {h : pm_H} {Q : Option Value → pm_H → Prop} {r0 : Nat} {d1 : Option Value} {x2 : Int32} {d3 : Option Value} {x4 : Int32} {d5 : Option Value} {b2 : Nat} {b4 : Nat} (g1 : zT h r0 = 12) (e3 : zR h r0 6 = some b2) (e5 : zR h r0 9 = some b4) (g6 : zT h b2 = 4) (k : WP 25 0 [some (.ref b2), some (.int x2), some (.int x4), some (.ref b4), none, none, none] [] h (fun v1 h1 => WP 102 79 [some (.ref r0), d1, some (.int x2), d3, some (.int x4), d5] (v1.toList ++ []) h1 Q)) : WP 102 65 [some (.ref r0), d1, some (.int x2), d3, some (.int x4), d5] [] h Q :=
  WP.nx rfl (WP.gd rfl g1 (WP.top (congrArg va_rf e3) (WP.nx rfl (WP.nx rfl (WP.nx rfl (WP.gd rfl g1 (WP.top (congrArg va_rf e5) (WP.cl rfl g6 k))))))))
theorem B102_79 {h : pm_H} {Q : Option Value → pm_H → Prop} {d0 : Option Value} {d1 : Option Value} {d2 : Option Value} {d3 : Option Value} {x4 : Int32} {d5 : Option Value} {s0 : Int32} (kt : ¬ s0 = (Int32.ofInt (-1)) → WP 102 94 [d0, d1, d2, d3, some (.int x4), some (.int s0)] [] h Q) (kf : s0 = (Int32.ofInt (-1)) → WP 102 87 [d0, d1, d2, d3, some (.int x4), some (.int s0)] [] h Q) : WP 102 79 [d0, d1, d2, d3, some (.int x4), d5] [.int s0] h Q :=
  WP.nx rfl (WP.nx rfl (WP.nx rfl (WP.br rfl kt (fun q => kf (Decidable.not_not.mp q)))))
theorem B102_87 {h : pm_H} {Q : Option Value → pm_H → Prop} {r0 : Nat} {d1 : Option Value} {d2 : Option Value} {d3 : Option Value} {d4 : Option Value} {d5 : Option Value} (g1 : zT h r0 = 12) (k : WP 107 0 [some (.ref r0), some (.int (Int32.ofInt 6))] [] h (fun v1 h1 => WP 102 93 [some (.ref r0), d1, d2, d3, d4, d5] (v1.toList ++ []) h1 Q)) : WP 102 87 [some (.ref r0), d1, d2, d3, d4, d5] [] h Q :=
  WP.nx rfl (WP.nx rfl (WP.cl rfl g1 k))
theorem B102_93 {h : pm_H} {Q : Option Value → pm_H → Prop} {d0 : Option Value} {d1 : Option Value} {d2 : Option Value} {d3 : Option Value} {d4 : Option Value} {d5 : Option Value} {s0 : Int32} (k : Q (some (.int s0)) h) : WP 102 93 [d0, d1, d2, d3, d4, d5] [.int s0] h Q :=
  WP.rt rfl trivial k
theorem B102_94 {h : pm_H} {Q : Option Value → pm_H → Prop} {r0 : Nat} {d1 : Option Value} {d2 : Option Value} {d3 : Option Value} {x4 : Int32} {x5 : Int32} (g1 : zT h r0 = 12) (k : WP 106 0 [some (.ref r0), some (.int x5)] [] (yI h r0 10 x4) (fun v1 h1 => WP 102 106 [some (.ref r0), d1, d2, d3, some (.int x4), some (.int x5)] (v1.toList ++ []) h1 Q)) : WP 102 94 [some (.ref r0), d1, d2, d3, some (.int x4), some (.int x5)] [] h Q :=
  WP.nx rfl (WP.nx rfl (WP.gd rfl g1 (WP.nx rfl (WP.nx rfl (WP.cl rfl g1 k)))))
theorem B102_106 {h : pm_H} {Q : Option Value → pm_H → Prop} {d0 : Option Value} {d1 : Option Value} {d2 : Option Value} {d3 : Option Value} {d4 : Option Value} {d5 : Option Value} {s0 : Int32} (k : Q (some (.int s0)) h) : WP 102 106 [d0, d1, d2, d3, d4, d5] [.int s0] h Q :=
  WP.rt rfl trivial k
/-! 103 StripCloth.far(II)I -/
theorem B103_0 {h : pm_H} {Q : Option Value → pm_H → Prop} {r0 : Nat} {x1 : Int32} {d2 : Option Value} {d3 : Option Value} {d4 : Option Value} {b2 : Nat} (g1 : zT h r0 = 12) (e3 : zR h r0 2 = some b2) (g4 : zT h b2 = 2) (k : WP 15 0 [some (.ref b2), some (.int x1)] [] h (fun v1 h1 => WP 103 8 [some (.ref r0), some (.int x1), d2, d3, d4] (v1.toList ++ []) h1 Q)) : WP 103 0 [some (.ref r0), some (.int x1), d2, d3, d4] [] h Q :=
  WP.nx rfl (WP.gd rfl g1 (WP.top (congrArg va_rf e3) (WP.nx rfl (WP.cl rfl g4 k))))
theorem B103_8 {h : pm_H} {Q : Option Value → pm_H → Prop} {r0 : Nat} {d1 : Option Value} {x2 : Int32} {d3 : Option Value} {d4 : Option Value} {s0 : Nat} {b2 : Nat} (g1 : zT h r0 = 12) (e3 : zR h r0 2 = some b2) (g4 : zT h b2 = 2) (k : WP 15 0 [some (.ref b2), some (.int x2)] [] h (fun v1 h1 => WP 103 17 [some (.ref r0), d1, some (.int x2), some (.ref s0), d4] (v1.toList ++ []) h1 Q)) : WP 103 8 [some (.ref r0), d1, some (.int x2), d3, d4] [.ref s0] h Q :=
  WP.nx rfl (WP.nx rfl (WP.gd rfl g1 (WP.top (congrArg va_rf e3) (WP.nx rfl (WP.cl rfl g4 k)))))
theorem B103_17 {h : pm_H} {Q : Option Value → pm_H → Prop} {d0 : Option Value} {d1 : Option Value} {d2 : Option Value} {r3 : Nat} {d4 : Option Value} {s0 : Nat} (k : WP 103 23 [d0, d1, d2, some (.ref r3), some (.ref s0)] [] h Q) : WP 103 17 [d0, d1, d2, some (.ref r3), d4] [.ref s0] h Q :=
  WP.nx rfl (WP.nx rfl (WP.nx rfl (k)))
theorem B103_17n {h : pm_H} {Q : Option Value → pm_H → Prop} {d0 : Option Value} {d1 : Option Value} {d2 : Option Value} {d4 : Option Value} {s0 : Nat} (k : WP 103 28 [d0, d1, d2, some .null, some (.ref s0)] [] h Q) : WP 103 17 [d0, d1, d2, some .null, d4] [.ref s0] h Q :=
  WP.nx rfl (WP.nx rfl (WP.nx rfl (k)))
theorem B103_23 {h : pm_H} {Q : Option Value → pm_H → Prop} {d0 : Option Value} {d1 : Option Value} {d2 : Option Value} {d3 : Option Value} {r4 : Nat} (k : WP 103 34 [d0, d1, d2, d3, some (.ref r4)] [] h Q) : WP 103 23 [d0, d1, d2, d3, some (.ref r4)] [] h Q :=
  WP.nx rfl (WP.nx rfl (k))
theorem B103_23n {h : pm_H} {Q : Option Value → pm_H → Prop} {d0 : Option Value} {d1 : Option Value} {d2 : Option Value} {d3 : Option Value} (k : WP 103 28 [d0, d1, d2, d3, some .null] [] h Q) : WP 103 23 [d0, d1, d2, d3, some .null] [] h Q :=
  WP.nx rfl (WP.nx rfl (k))
theorem B103_28 {h : pm_H} {Q : Option Value → pm_H → Prop} {r0 : Nat} {d1 : Option Value} {d2 : Option Value} {d3 : Option Value} {d4 : Option Value} (g1 : zT h r0 = 12) (k : WP 107 0 [some (.ref r0), some (.int (Int32.ofInt 1))] [] h (fun v1 h1 => WP 103 33 [some (.ref r0), d1, d2, d3, d4] (v1.toList ++ []) h1 Q)) : WP 103 28 [some (.ref r0), d1, d2, d3, d4] [] h Q :=
  WP.nx rfl (WP.nx rfl (WP.cl rfl g1 k))
theorem B103_33 {h : pm_H} {Q : Option Value → pm_H → Prop} {d0 : Option Value} {d1 : Option Value} {d2 : Option Value} {d3 : Option Value} {d4 : Option Value} {s0 : Int32} (k : Q (some (.int s0)) h) : WP 103 33 [d0, d1, d2, d3, d4] [.int s0] h Q :=
  WP.rt rfl trivial k
theorem B103_34 {h : pm_H} {Q : Option Value → pm_H → Prop} {r0 : Nat} {d1 : Option Value} {d2 : Option Value} {r3 : Nat} {r4 : Nat} (g1 : zT h r0 = 12) (k : WP 119 0 [some (.ref r0), some (.ref r3), some (.ref r4), none, none] [] h (fun v1 h1 => WP 103 42 [some (.ref r0), d1, d2, some (.ref r3), some (.ref r4)] (v1.toList ++ [.ref r0]) h1 Q)) : WP 103 34 [some (.ref r0), d1, d2, some (.ref r3), some (.ref r4)] [] h Q :=
  WP.nx rfl (WP.nx rfl (WP.nx rfl (WP.nx rfl (WP.cl rfl g1 k))))
theorem B103_42 {h : pm_H} {Q : Option Value → pm_H → Prop} {d0 : Option Value} {d1 : Option Value} {d2 : Option Value} {d3 : Option Value} {d4 : Option Value} {s0 : Nat} {s1 : Int32} (g1 : zT h s0 = 12) (k : WP 106 0 [some (.ref s0), some (.int s1)] [] h (fun v1 h1 => WP 103 45 [d0, d1, d2, d3, d4] (v1.toList ++ []) h1 Q)) : WP 103 42 [d0, d1, d2, d3, d4] [.int s1, .ref s0] h Q :=
  WP.cl rfl g1 k
theorem B103_45 {h : pm_H} {Q : Option Value → pm_H → Prop} {d0 : Option Value} {d1 : Option Value} {d2 : Option Value} {d3 : Option Value} {d4 : Option Value} {s0 : Int32} (k : Q (some (.int s0)) h) : WP 103 45 [d0, d1, d2, d3, d4] [.int s0] h Q :=
  WP.rt rfl trivial k
/-! 104 StripCloth.right(IIIII)Z -/
theorem B104_0 {h : pm_H} {Q : Option Value → pm_H → Prop} {d0 : Option Value} {x1 : Int32} {d2 : Option Value} {d3 : Option Value} {d4 : Option Value} {d5 : Option Value} (k : WP 112 0 [some (.int x1)] [] h (fun v1 h1 => WP 104 4 [d0, some (.int x1), d2, d3, d4, d5] (v1.toList ++ []) h1 Q)) : WP 104 0 [d0, some (.int x1), d2, d3, d4, d5] [] h Q :=
  WP.nx rfl (WP.cl rfl trivial k)
theorem B104_4 {h : pm_H} {Q : Option Value → pm_H → Prop} {d0 : Option Value} {d1 : Option Value} {d2 : Option Value} {d3 : Option Value} {d4 : Option Value} {d5 : Option Value} {s0 : Int32} (kt : ¬ s0 = 0 → WP 104 43 [d0, d1, d2, d3, d4, d5] [] h Q) (kf : s0 = 0 → WP 104 7 [d0, d1, d2, d3, d4, d5] [] h Q) : WP 104 4 [d0, d1, d2, d3, d4, d5] [.int s0] h Q :=
  WP.br rfl kt (fun q => kf (Decidable.not_not.mp q))
theorem B104_7 {h : pm_H} {Q : Option Value → pm_H → Prop} {d0 : Option Value} {d1 : Option Value} {x2 : Int32} {d3 : Option Value} {d4 : Option Value} {d5 : Option Value} (k : WP 113 0 [some (.int x2)] [] h (fun v1 h1 => WP 104 11 [d0, d1, some (.int x2), d3, d4, d5] (v1.toList ++ []) h1 Q)) : WP 104 7 [d0, d1, some (.int x2), d3, d4, d5] [] h Q :=
  WP.nx rfl (WP.cl rfl trivial k)
theorem B104_11 {h : pm_H} {Q : Option Value → pm_H → Prop} {d0 : Option Value} {d1 : Option Value} {d2 : Option Value} {d3 : Option Value} {d4 : Option Value} {d5 : Option Value} {s0 : Int32} (kt : ¬ s0 = 0 → WP 104 43 [d0, d1, d2, d3, d4, d5] [] h Q) (kf : s0 = 0 → WP 104 14 [d0, d1, d2, d3, d4, d5] [] h Q) : WP 104 11 [d0, d1, d2, d3, d4, d5] [.int s0] h Q :=
  WP.br rfl kt (fun q => kf (Decidable.not_not.mp q))
theorem B104_14 {h : pm_H} {Q : Option Value → pm_H → Prop} {d0 : Option Value} {d1 : Option Value} {d2 : Option Value} {x3 : Int32} {d4 : Option Value} {d5 : Option Value} (k : WP 114 0 [some (.int x3)] [] h (fun v1 h1 => WP 104 18 [d0, d1, d2, some (.int x3), d4, d5] (v1.toList ++ []) h1 Q)) : WP 104 14 [d0, d1, d2, some (.int x3), d4, d5] [] h Q :=
  WP.nx rfl (WP.cl rfl trivial k)
theorem B104_18 {h : pm_H} {Q : Option Value → pm_H → Prop} {d0 : Option Value} {d1 : Option Value} {d2 : Option Value} {d3 : Option Value} {d4 : Option Value} {d5 : Option Value} {s0 : Int32} (kt : ¬ s0 = 0 → WP 104 43 [d0, d1, d2, d3, d4, d5] [] h Q) (kf : s0 = 0 → WP 104 21 [d0, d1, d2, d3, d4, d5] [] h Q) : WP 104 18 [d0, d1, d2, d3, d4, d5] [.int s0] h Q :=
  WP.br rfl kt (fun q => kf (Decidable.not_not.mp q))
theorem B104_21 {h : pm_H} {Q : Option Value → pm_H → Prop} {d0 : Option Value} {d1 : Option Value} {d2 : Option Value} {d3 : Option Value} {x4 : Int32} {d5 : Option Value} (k : WP 114 0 [some (.int x4)] [] h (fun v1 h1 => WP 104 26 [d0, d1, d2, d3, some (.int x4), d5] (v1.toList ++ []) h1 Q)) : WP 104 21 [d0, d1, d2, d3, some (.int x4), d5] [] h Q :=
  WP.nx rfl (WP.cl rfl trivial k)
theorem B104_26 {h : pm_H} {Q : Option Value → pm_H → Prop} {d0 : Option Value} {d1 : Option Value} {d2 : Option Value} {d3 : Option Value} {d4 : Option Value} {d5 : Option Value} {s0 : Int32} (kt : ¬ s0 = 0 → WP 104 43 [d0, d1, d2, d3, d4, d5] [] h Q) (kf : s0 = 0 → WP 104 29 [d0, d1, d2, d3, d4, d5] [] h Q) : WP 104 26 [d0, d1, d2, d3, d4, d5] [.int s0] h Q :=
  WP.br rfl kt (fun q => kf (Decidable.not_not.mp q))
theorem B104_29 {h : pm_H} {Q : Option Value → pm_H → Prop} {d0 : Option Value} {d1 : Option Value} {d2 : Option Value} {x3 : Int32} {x4 : Int32} {d5 : Option Value} (kt : x4 < x3 → WP 104 43 [d0, d1, d2, some (.int x3), some (.int x4), d5] [] h Q) (kf : ¬ x4 < x3 → WP 104 35 [d0, d1, d2, some (.int x3), some (.int x4), d5] [] h Q) : WP 104 29 [d0, d1, d2, some (.int x3), some (.int x4), d5] [] h Q :=
  WP.nx rfl (WP.nx rfl (WP.br rfl kt kf))
theorem B104_35 {h : pm_H} {Q : Option Value → pm_H → Prop} {d0 : Option Value} {d1 : Option Value} {d2 : Option Value} {d3 : Option Value} {d4 : Option Value} {x5 : Int32} (k : WP 114 0 [some (.int x5)] [] h (fun v1 h1 => WP 104 40 [d0, d1, d2, d3, d4, some (.int x5)] (v1.toList ++ []) h1 Q)) : WP 104 35 [d0, d1, d2, d3, d4, some (.int x5)] [] h Q :=
  WP.nx rfl (WP.cl rfl trivial k)
theorem B104_40 {h : pm_H} {Q : Option Value → pm_H → Prop} {d0 : Option Value} {d1 : Option Value} {d2 : Option Value} {d3 : Option Value} {d4 : Option Value} {d5 : Option Value} {s0 : Int32} (kt : s0 = 0 → WP 104 49 [d0, d1, d2, d3, d4, d5] [] h Q) (kf : ¬ s0 = 0 → WP 104 43 [d0, d1, d2, d3, d4, d5] [] h Q) : WP 104 40 [d0, d1, d2, d3, d4, d5] [.int s0] h Q :=
  WP.br rfl kt kf
theorem B104_43 {h : pm_H} {Q : Option Value → pm_H → Prop} {r0 : Nat} {d1 : Option Value} {d2 : Option Value} {d3 : Option Value} {d4 : Option Value} {d5 : Option Value} (g1 : zT h r0 = 12) (k : WP 109 0 [some (.ref r0), some (.int (Int32.ofInt 2))] [] h (fun v1 h1 => WP 104 48 [some (.ref r0), d1, d2, d3, d4, d5] (v1.toList ++ []) h1 Q)) : WP 104 43 [some (.ref r0), d1, d2, d3, d4, d5] [] h Q :=
  WP.nx rfl (WP.nx rfl (WP.cl rfl g1 k))
theorem B104_48 {h : pm_H} {Q : Option Value → pm_H → Prop} {d0 : Option Value} {d1 : Option Value} {d2 : Option Value} {d3 : Option Value} {d4 : Option Value} {d5 : Option Value} {s0 : Int32} (g1 : s0 = 0 ∨ s0 = 1) (k : Q (some (.int s0)) h) : WP 104 48 [d0, d1, d2, d3, d4, d5] [.int s0] h Q :=
  WP.rt rfl g1 k
theorem B104_49 {h : pm_H} {Q : Option Value → pm_H → Prop} {r0 : Nat} {d1 : Option Value} {d2 : Option Value} {d3 : Option Value} {d4 : Option Value} {d5 : Option Value} {b2 : Nat} (g1 : zT h r0 = 12) (e3 : zR h r0 7 = some b2) (g4 : zT h b2 = 7) (kt : (zI h b2 5) < (Int32.ofInt 60) → WP 104 67 [some (.ref r0), d1, d2, d3, d4, d5] [] h Q) (kf : ¬ (zI h b2 5) < (Int32.ofInt 60) → WP 104 61 [some (.ref r0), d1, d2, d3, d4, d5] [] h Q) : WP 104 49 [some (.ref r0), d1, d2, d3, d4, d5] [] h Q :=
  WP.nx rfl (WP.gd rfl g1 (WP.top (congrArg va_rf e3) (WP.gd rfl g4 (WP.nx rfl (WP.br rfl kt kf)))))
theorem B104_61 {h : pm_H} {Q : Option Value → pm_H → Prop} {r0 : Nat} {d1 : Option Value} {d2 : Option Value} {d3 : Option Value} {d4 : Option Value} {d5 : Option Value} (g1 : zT h r0 = 12) (k : WP 109 0 [some (.ref r0), some (.int (Int32.ofInt 3))] [] h (fun v1 h1 => WP 104 66 [some (.ref r0), d1, d2, d3, d4, d5] (v1.toList ++ []) h1 Q)) : WP 104 61 [some (.ref r0), d1, d2, d3, d4, d5] [] h Q :=
  WP.nx rfl (WP.nx rfl (WP.cl rfl g1 k))
theorem B104_66 {h : pm_H} {Q : Option Value → pm_H → Prop} {d0 : Option Value} {d1 : Option Value} {d2 : Option Value} {d3 : Option Value} {d4 : Option Value} {d5 : Option Value} {s0 : Int32} (g1 : s0 = 0 ∨ s0 = 1) (k : Q (some (.int s0)) h) : WP 104 66 [d0, d1, d2, d3, d4, d5] [.int s0] h Q :=
  WP.rt rfl g1 k
theorem B104_67 {h : pm_H} {Q : Option Value → pm_H → Prop} {r0 : Nat} {x1 : Int32} {x2 : Int32} {x3 : Int32} {x4 : Int32} {x5 : Int32} {b2 : Nat} (g1 : zT h r0 = 12) (e3 : zR h r0 7 = some b2) (g4 : zT h b2 = 7) (k : WP 47 0 [some (.ref b2), some (.int x1), some (.int x2), some (.int x3), some (.int x4), some (.int x5)] [] h (fun v1 h1 => WP 104 81 [some (.ref r0), some (.int x1), some (.int x2), some (.int x3), some (.int x4), some (.int x5)] (v1.toList ++ []) h1 Q)) : WP 104 67 [some (.ref r0), some (.int x1), some (.int x2), some (.int x3), some (.int x4), some (.int x5)] [] h Q :=
  WP.nx rfl (WP.gd rfl g1 (WP.top (congrArg va_rf e3) (WP.nx rfl (WP.nx rfl (WP.nx rfl (WP.nx rfl (WP.nx rfl (WP.cl rfl g4 k))))))))
theorem B104_81 {h : pm_H} {Q : Option Value → pm_H → Prop} {r0 : Nat} {d1 : Option Value} {d2 : Option Value} {d3 : Option Value} {d4 : Option Value} {d5 : Option Value} (g1 : zT h r0 = 12) (k : WP 108 0 [some (.ref r0)] [] h (fun v1 h1 => WP 104 85 [some (.ref r0), d1, d2, d3, d4, d5] (v1.toList ++ []) h1 Q)) : WP 104 81 [some (.ref r0), d1, d2, d3, d4, d5] [] h Q :=
  WP.nx rfl (WP.cl rfl g1 k)
theorem B104_85 {h : pm_H} {Q : Option Value → pm_H → Prop} {d0 : Option Value} {d1 : Option Value} {d2 : Option Value} {d3 : Option Value} {d4 : Option Value} {d5 : Option Value} {s0 : Int32} (g1 : s0 = 0 ∨ s0 = 1) (k : Q (some (.int s0)) h) : WP 104 85 [d0, d1, d2, d3, d4, d5] [.int s0] h Q :=
  WP.rt rfl g1 k
/-! 105 StripCloth.may(IIII)I -/
theorem B105_0 {h : pm_H} {Q : Option Value → pm_H → Prop} {d0 : Option Value} {x1 : Int32} {d2 : Option Value} {d3 : Option Value} {d4 : Option Value} (k : WP 112 0 [some (.int x1)] [] h (fun v1 h1 => WP 105 4 [d0, some (.int x1), d2, d3, d4] (v1.toList ++ []) h1 Q)) : WP 105 0 [d0, some (.int x1), d2, d3, d4] [] h Q :=
  WP.nx rfl (WP.cl rfl trivial k)
theorem B105_4 {h : pm_H} {Q : Option Value → pm_H → Prop} {d0 : Option Value} {d1 : Option Value} {d2 : Option Value} {d3 : Option Value} {d4 : Option Value} {s0 : Int32} (kt : ¬ s0 = 0 → WP 105 29 [d0, d1, d2, d3, d4] [] h Q) (kf : s0 = 0 → WP 105 7 [d0, d1, d2, d3, d4] [] h Q) : WP 105 4 [d0, d1, d2, d3, d4] [.int s0] h Q :=
  WP.br rfl kt (fun q => kf (Decidable.not_not.mp q))
theorem B105_7 {h : pm_H} {Q : Option Value → pm_H → Prop} {d0 : Option Value} {d1 : Option Value} {x2 : Int32} {d3 : Option Value} {d4 : Option Value} (k : WP 113 0 [some (.int x2)] [] h (fun v1 h1 => WP 105 11 [d0, d1, some (.int x2), d3, d4] (v1.toList ++ []) h1 Q)) : WP 105 7 [d0, d1, some (.int x2), d3, d4] [] h Q :=
  WP.nx rfl (WP.cl rfl trivial k)
theorem B105_11 {h : pm_H} {Q : Option Value → pm_H → Prop} {d0 : Option Value} {d1 : Option Value} {d2 : Option Value} {d3 : Option Value} {d4 : Option Value} {s0 : Int32} (kt : ¬ s0 = 0 → WP 105 29 [d0, d1, d2, d3, d4] [] h Q) (kf : s0 = 0 → WP 105 14 [d0, d1, d2, d3, d4] [] h Q) : WP 105 11 [d0, d1, d2, d3, d4] [.int s0] h Q :=
  WP.br rfl kt (fun q => kf (Decidable.not_not.mp q))
theorem B105_14 {h : pm_H} {Q : Option Value → pm_H → Prop} {d0 : Option Value} {d1 : Option Value} {d2 : Option Value} {x3 : Int32} {d4 : Option Value} (k : WP 114 0 [some (.int x3)] [] h (fun v1 h1 => WP 105 18 [d0, d1, d2, some (.int x3), d4] (v1.toList ++ []) h1 Q)) : WP 105 14 [d0, d1, d2, some (.int x3), d4] [] h Q :=
  WP.nx rfl (WP.cl rfl trivial k)
theorem B105_18 {h : pm_H} {Q : Option Value → pm_H → Prop} {d0 : Option Value} {d1 : Option Value} {d2 : Option Value} {d3 : Option Value} {d4 : Option Value} {s0 : Int32} (kt : ¬ s0 = 0 → WP 105 29 [d0, d1, d2, d3, d4] [] h Q) (kf : s0 = 0 → WP 105 21 [d0, d1, d2, d3, d4] [] h Q) : WP 105 18 [d0, d1, d2, d3, d4] [.int s0] h Q :=
  WP.br rfl kt (fun q => kf (Decidable.not_not.mp q))
theorem B105_21 {h : pm_H} {Q : Option Value → pm_H → Prop} {d0 : Option Value} {d1 : Option Value} {d2 : Option Value} {d3 : Option Value} {x4 : Int32} (k : WP 114 0 [some (.int x4)] [] h (fun v1 h1 => WP 105 26 [d0, d1, d2, d3, some (.int x4)] (v1.toList ++ []) h1 Q)) : WP 105 21 [d0, d1, d2, d3, some (.int x4)] [] h Q :=
  WP.nx rfl (WP.cl rfl trivial k)
theorem B105_26 {h : pm_H} {Q : Option Value → pm_H → Prop} {d0 : Option Value} {d1 : Option Value} {d2 : Option Value} {d3 : Option Value} {d4 : Option Value} {s0 : Int32} (kt : s0 = 0 → WP 105 35 [d0, d1, d2, d3, d4] [] h Q) (kf : ¬ s0 = 0 → WP 105 29 [d0, d1, d2, d3, d4] [] h Q) : WP 105 26 [d0, d1, d2, d3, d4] [.int s0] h Q :=
  WP.br rfl kt kf
theorem B105_29 {h : pm_H} {Q : Option Value → pm_H → Prop} {r0 : Nat} {d1 : Option Value} {d2 : Option Value} {d3 : Option Value} {d4 : Option Value} (g1 : zT h r0 = 12) (k : WP 107 0 [some (.ref r0), some (.int (Int32.ofInt 2))] [] h (fun v1 h1 => WP 105 34 [some (.ref r0), d1, d2, d3, d4] (v1.toList ++ []) h1 Q)) : WP 105 29 [some (.ref r0), d1, d2, d3, d4] [] h Q :=
  WP.nx rfl (WP.nx rfl (WP.cl rfl g1 k))
theorem B105_34 {h : pm_H} {Q : Option Value → pm_H → Prop} {d0 : Option Value} {d1 : Option Value} {d2 : Option Value} {d3 : Option Value} {d4 : Option Value} {s0 : Int32} (k : Q (some (.int s0)) h) : WP 105 34 [d0, d1, d2, d3, d4] [.int s0] h Q :=
  WP.rt rfl trivial k
theorem B105_35 {h : pm_H} {Q : Option Value → pm_H → Prop} {r0 : Nat} {x1 : Int32} {x2 : Int32} {x3 : Int32} {x4 : Int32} {b2 : Nat} (g1 : zT h r0 = 12) (e3 : zR h r0 7 = some b2) (g4 : zT h b2 = 7) (k : WP 48 0 [some (.ref b2), some (.int x1), some (.int x3), some (.int x4), none, none, none, none] [] h (fun v1 h1 => WP 105 48 [some (.ref r0), some (.int x1), some (.int x2), some (.int x3), some (.int x4)] (v1.toList ++ [.int x2, .ref r0]) h1 Q)) : WP 105 35 [some (.ref r0), some (.int x1), some (.int x2), some (.int x3), some (.int x4)] [] h Q :=
  WP.nx rfl (WP.nx rfl (WP.nx rfl (WP.gd rfl g1 (WP.top (congrArg va_rf e3) (WP.nx rfl (WP.nx rfl (WP.nx rfl (WP.cl rfl g4 k))))))))
theorem B105_48 {h : pm_H} {Q : Option Value → pm_H → Prop} {d0 : Option Value} {d1 : Option Value} {d2 : Option Value} {d3 : Option Value} {d4 : Option Value} {s0 : Nat} {s1 : Int32} {s2 : Int32} (kt : s1 < s2 → WP 105 55 [d0, d1, d2, d3, d4] [.ref s0] h Q) (kf : ¬ s1 < s2 → WP 105 51 [d0, d1, d2, d3, d4] [.ref s0] h Q) : WP 105 48 [d0, d1, d2, d3, d4] [.int s2, .int s1, .ref s0] h Q :=
  WP.br rfl kt kf
theorem B105_51 {h : pm_H} {Q : Option Value → pm_H → Prop} {d0 : Option Value} {d1 : Option Value} {d2 : Option Value} {d3 : Option Value} {d4 : Option Value} {s0 : Nat} (k : WP 105 56 [d0, d1, d2, d3, d4] [.int (Int32.ofInt 1), .ref s0] h Q) : WP 105 51 [d0, d1, d2, d3, d4] [.ref s0] h Q :=
  WP.nx rfl (WP.nx rfl (k))
theorem B105_55 {h : pm_H} {Q : Option Value → pm_H → Prop} {d0 : Option Value} {d1 : Option Value} {d2 : Option Value} {d3 : Option Value} {d4 : Option Value} {s0 : Nat} (k : WP 105 56 [d0, d1, d2, d3, d4] [.int (Int32.ofInt 0), .ref s0] h Q) : WP 105 55 [d0, d1, d2, d3, d4] [.ref s0] h Q :=
  WP.nx rfl (k)
theorem B105_56 {h : pm_H} {Q : Option Value → pm_H → Prop} {d0 : Option Value} {d1 : Option Value} {d2 : Option Value} {d3 : Option Value} {d4 : Option Value} {s0 : Nat} {s1 : Int32} (g1 : zT h s0 = 12) (k : WP 106 0 [some (.ref s0), some (.int s1)] [] h (fun v1 h1 => WP 105 59 [d0, d1, d2, d3, d4] (v1.toList ++ []) h1 Q)) : WP 105 56 [d0, d1, d2, d3, d4] [.int s1, .ref s0] h Q :=
  WP.cl rfl g1 k
theorem B105_59 {h : pm_H} {Q : Option Value → pm_H → Prop} {d0 : Option Value} {d1 : Option Value} {d2 : Option Value} {d3 : Option Value} {d4 : Option Value} {s0 : Int32} (k : Q (some (.int s0)) h) : WP 105 59 [d0, d1, d2, d3, d4] [.int s0] h Q :=
  WP.rt rfl trivial k
/-! 106 StripCloth.answer(I)I -/
theorem B106_0 {h : pm_H} {Q : Option Value → pm_H → Prop} {r0 : Nat} {x1 : Int32} (g1 : zT h r0 = 12) (k : Q (some (.int x1)) (yI h r0 0 (Int32.ofInt 0))) : WP 106 0 [some (.ref r0), some (.int x1)] [] h Q :=
  WP.nx rfl (WP.nx rfl (WP.gd rfl g1 (WP.nx rfl (WP.rt rfl trivial k))))
/-! 107 StripCloth.refuse(I)I -/
theorem B107_0 {h : pm_H} {Q : Option Value → pm_H → Prop} {r0 : Nat} {x1 : Int32} (g1 : zT h r0 = 12) (k : Q (some (.int (Int32.ofInt (-1)))) (yI h r0 0 x1)) : WP 107 0 [some (.ref r0), some (.int x1)] [] h Q :=
  WP.nx rfl (WP.nx rfl (WP.gd rfl g1 (WP.nx rfl (WP.rt rfl trivial k))))
/-! 108 StripCloth.grant()Z -/
theorem B108_0 {h : pm_H} {Q : Option Value → pm_H → Prop} {r0 : Nat} (g1 : zT h r0 = 12) (g2 : (Int32.ofInt 1) = 0 ∨ (Int32.ofInt 1) = 1) (k : Q (some (.int (Int32.ofInt 1))) (yI h r0 0 (Int32.ofInt 0))) : WP 108 0 [some (.ref r0)] [] h Q :=
  WP.nx rfl (WP.nx rfl (WP.gd rfl g1 (WP.nx rfl (WP.rt rfl g2 k))))
/-! 109 StripCloth.deny(I)Z -/
theorem B109_0 {h : pm_H} {Q : Option Value → pm_H → Prop} {r0 : Nat} {x1 : Int32} (g1 : zT h r0 = 12) (g2 : (Int32.ofInt 0) = 0 ∨ (Int32.ofInt 0) = 1) (k : Q (some (.int (Int32.ofInt 0))) (yI h r0 0 x1)) : WP 109 0 [some (.ref r0), some (.int x1)] [] h Q :=
  WP.nx rfl (WP.nx rfl (WP.gd rfl g1 (WP.nx rfl (WP.rt rfl g2 k))))
/-! 110 StripCloth.isNoColour(I)Z -/
theorem B110_0 {h : pm_H} {Q : Option Value → pm_H → Prop} {x0 : Int32} (kt : x0 < 0 → WP 110 10 [some (.int x0)] [] h Q) (kf : ¬ x0 < 0 → WP 110 4 [some (.int x0)] [] h Q) : WP 110 0 [some (.int x0)] [] h Q :=
  WP.nx rfl (WP.br rfl kt kf)
theorem B110_4 {h : pm_H} {Q : Option Value → pm_H → Prop} {x0 : Int32} (kt : x0 < (Int32.ofInt 8) → WP 110 14 [some (.int x0)] [] h Q) (kf : ¬ x0 < (Int32.ofInt 8) → WP 110 10 [some (.int x0)] [] h Q) : WP 110 4 [some (.int x0)] [] h Q :=
  WP.nx rfl (WP.nx rfl (WP.br rfl kt kf))
theorem B110_10 {h : pm_H} {Q : Option Value → pm_H → Prop} {d0 : Option Value} (k : WP 110 15 [d0] [.int (Int32.ofInt 1)] h Q) : WP 110 10 [d0] [] h Q :=
  WP.nx rfl (WP.nx rfl (k))
theorem B110_14 {h : pm_H} {Q : Option Value → pm_H → Prop} {d0 : Option Value} (k : WP 110 15 [d0] [.int (Int32.ofInt 0)] h Q) : WP 110 14 [d0] [] h Q :=
  WP.nx rfl (k)
theorem B110_15 {h : pm_H} {Q : Option Value → pm_H → Prop} {d0 : Option Value} {s0 : Int32} (g1 : s0 = 0 ∨ s0 = 1) (k : Q (some (.int s0)) h) : WP 110 15 [d0] [.int s0] h Q :=
  WP.rt rfl g1 k
/-! 111 StripCloth.isNoYarn(I)Z -/
theorem B111_0 {h : pm_H} {Q : Option Value → pm_H → Prop} {x0 : Int32} (kt : x0 < 0 → WP 111 10 [some (.int x0)] [] h Q) (kf : ¬ x0 < 0 → WP 111 4 [some (.int x0)] [] h Q) : WP 111 0 [some (.int x0)] [] h Q :=
  WP.nx rfl (WP.br rfl kt kf)
theorem B111_4 {h : pm_H} {Q : Option Value → pm_H → Prop} {x0 : Int32} (kt : x0 ≤ (Int32.ofInt 1000000) → WP 111 14 [some (.int x0)] [] h Q) (kf : ¬ x0 ≤ (Int32.ofInt 1000000) → WP 111 10 [some (.int x0)] [] h Q) : WP 111 4 [some (.int x0)] [] h Q :=
  WP.nx rfl (WP.nx rfl (WP.br rfl kt kf))
theorem B111_10 {h : pm_H} {Q : Option Value → pm_H → Prop} {d0 : Option Value} (k : WP 111 15 [d0] [.int (Int32.ofInt 1)] h Q) : WP 111 10 [d0] [] h Q :=
  WP.nx rfl (WP.nx rfl (k))
theorem B111_14 {h : pm_H} {Q : Option Value → pm_H → Prop} {d0 : Option Value} (k : WP 111 15 [d0] [.int (Int32.ofInt 0)] h Q) : WP 111 14 [d0] [] h Q :=
  WP.nx rfl (k)
theorem B111_15 {h : pm_H} {Q : Option Value → pm_H → Prop} {d0 : Option Value} {s0 : Int32} (g1 : s0 = 0 ∨ s0 = 1) (k : Q (some (.int s0)) h) : WP 111 15 [d0] [.int s0] h Q :=
  WP.rt rfl g1 k
/-! 112 StripCloth.isNoName(I)Z -/
theorem B112_0 {h : pm_H} {Q : Option Value → pm_H → Prop} {x0 : Int32} (kt : x0 < 0 → WP 112 10 [some (.int x0)] [] h Q) (kf : ¬ x0 < 0 → WP 112 4 [some (.int x0)] [] h Q) : WP 112 0 [some (.int x0)] [] h Q :=
  WP.nx rfl (WP.br rfl kt kf)
theorem B112_4 {h : pm_H} {Q : Option Value → pm_H → Prop} {x0 : Int32} (kt : x0 < (Int32.ofInt 26) → WP 112 14 [some (.int x0)] [] h Q) (kf : ¬ x0 < (Int32.ofInt 26) → WP 112 10 [some (.int x0)] [] h Q) : WP 112 4 [some (.int x0)] [] h Q :=
  WP.nx rfl (WP.nx rfl (WP.br rfl kt kf))
theorem B112_10 {h : pm_H} {Q : Option Value → pm_H → Prop} {d0 : Option Value} (k : WP 112 15 [d0] [.int (Int32.ofInt 1)] h Q) : WP 112 10 [d0] [] h Q :=
  WP.nx rfl (WP.nx rfl (k))
theorem B112_14 {h : pm_H} {Q : Option Value → pm_H → Prop} {d0 : Option Value} (k : WP 112 15 [d0] [.int (Int32.ofInt 0)] h Q) : WP 112 14 [d0] [] h Q :=
  WP.nx rfl (k)
theorem B112_15 {h : pm_H} {Q : Option Value → pm_H → Prop} {d0 : Option Value} {s0 : Int32} (g1 : s0 = 0 ∨ s0 = 1) (k : Q (some (.int s0)) h) : WP 112 15 [d0] [.int s0] h Q :=
  WP.rt rfl g1 k
/-! 113 StripCloth.isNoRank(I)Z -/
theorem B113_0 {h : pm_H} {Q : Option Value → pm_H → Prop} {x0 : Int32} (kt : x0 < 0 → WP 113 10 [some (.int x0)] [] h Q) (kf : ¬ x0 < 0 → WP 113 4 [some (.int x0)] [] h Q) : WP 113 0 [some (.int x0)] [] h Q :=
  WP.nx rfl (WP.br rfl kt kf)
theorem B113_4 {h : pm_H} {Q : Option Value → pm_H → Prop} {x0 : Int32} (kt : x0 < (Int32.ofInt 10) → WP 113 14 [some (.int x0)] [] h Q) (kf : ¬ x0 < (Int32.ofInt 10) → WP 113 10 [some (.int x0)] [] h Q) : WP 113 4 [some (.int x0)] [] h Q :=
  WP.nx rfl (WP.nx rfl (WP.br rfl kt kf))
theorem B113_10 {h : pm_H} {Q : Option Value → pm_H → Prop} {d0 : Option Value} (k : WP 113 15 [d0] [.int (Int32.ofInt 1)] h Q) : WP 113 10 [d0] [] h Q :=
  WP.nx rfl (WP.nx rfl (k))
theorem B113_14 {h : pm_H} {Q : Option Value → pm_H → Prop} {d0 : Option Value} (k : WP 113 15 [d0] [.int (Int32.ofInt 0)] h Q) : WP 113 14 [d0] [] h Q :=
  WP.nx rfl (k)
theorem B113_15 {h : pm_H} {Q : Option Value → pm_H → Prop} {d0 : Option Value} {s0 : Int32} (g1 : s0 = 0 ∨ s0 = 1) (k : Q (some (.int s0)) h) : WP 113 15 [d0] [.int s0] h Q :=
  WP.rt rfl g1 k
/-! 114 StripCloth.isNoDay(I)Z -/
theorem B114_0 {h : pm_H} {Q : Option Value → pm_H → Prop} {x0 : Int32} (kt : x0 < 0 → WP 114 11 [some (.int x0)] [] h Q) (kf : ¬ x0 < 0 → WP 114 4 [some (.int x0)] [] h Q) : WP 114 0 [some (.int x0)] [] h Q :=
  WP.nx rfl (WP.br rfl kt kf)
theorem B114_4 {h : pm_H} {Q : Option Value → pm_H → Prop} {x0 : Int32} (kt : x0 < (Int32.ofInt 10000) → WP 114 15 [some (.int x0)] [] h Q) (kf : ¬ x0 < (Int32.ofInt 10000) → WP 114 11 [some (.int x0)] [] h Q) : WP 114 4 [some (.int x0)] [] h Q :=
  WP.nx rfl (WP.nx rfl (WP.br rfl kt kf))
theorem B114_11 {h : pm_H} {Q : Option Value → pm_H → Prop} {d0 : Option Value} (k : WP 114 16 [d0] [.int (Int32.ofInt 1)] h Q) : WP 114 11 [d0] [] h Q :=
  WP.nx rfl (WP.nx rfl (k))
theorem B114_15 {h : pm_H} {Q : Option Value → pm_H → Prop} {d0 : Option Value} (k : WP 114 16 [d0] [.int (Int32.ofInt 0)] h Q) : WP 114 15 [d0] [] h Q :=
  WP.nx rfl (k)
theorem B114_16 {h : pm_H} {Q : Option Value → pm_H → Prop} {d0 : Option Value} {s0 : Int32} (g1 : s0 = 0 ∨ s0 = 1) (k : Q (some (.int s0)) h) : WP 114 16 [d0] [.int s0] h Q :=
  WP.rt rfl g1 k
/-! 115 StripCloth.tellCloth(LStripCloth$Cloth;I)I -/
theorem B115_0 {h : pm_H} {Q : Option Value → pm_H → Prop} {d0 : Option Value} {d1 : Option Value} {x2 : Int32} (k : WP 115 (pm_tsw 72 0 3 #[32, 41, 50, 59] x2) [d0, d1, some (.int x2)] [] h Q) : WP 115 0 [d0, d1, some (.int x2)] [] h Q :=
  WP.nx rfl (WP.nx rfl (k))
theorem B115_32 {h : pm_H} {Q : Option Value → pm_H → Prop} {r0 : Nat} {r1 : Nat} {d2 : Option Value} (g1 : zT h r1 = 3) (g2 : zT h r0 = 12) (k : WP 106 0 [some (.ref r0), some (.int (zI h r1 0))] [] h (fun v1 h1 => WP 115 40 [some (.ref r0), some (.ref r1), d2] (v1.toList ++ []) h1 Q)) : WP 115 32 [some (.ref r0), some (.ref r1), d2] [] h Q :=
  WP.nx rfl (WP.nx rfl (WP.gd rfl g1 (WP.cl rfl g2 k)))
theorem B115_40 {h : pm_H} {Q : Option Value → pm_H → Prop} {d0 : Option Value} {d1 : Option Value} {d2 : Option Value} {s0 : Int32} (k : Q (some (.int s0)) h) : WP 115 40 [d0, d1, d2] [.int s0] h Q :=
  WP.rt rfl trivial k
theorem B115_41 {h : pm_H} {Q : Option Value → pm_H → Prop} {r0 : Nat} {r1 : Nat} {d2 : Option Value} (g1 : zT h r1 = 3) (g2 : zT h r0 = 12) (k : WP 106 0 [some (.ref r0), some (.int (zI h r1 2))] [] h (fun v1 h1 => WP 115 49 [some (.ref r0), some (.ref r1), d2] (v1.toList ++ []) h1 Q)) : WP 115 41 [some (.ref r0), some (.ref r1), d2] [] h Q :=
  WP.nx rfl (WP.nx rfl (WP.gd rfl g1 (WP.cl rfl g2 k)))
theorem B115_49 {h : pm_H} {Q : Option Value → pm_H → Prop} {d0 : Option Value} {d1 : Option Value} {d2 : Option Value} {s0 : Int32} (k : Q (some (.int s0)) h) : WP 115 49 [d0, d1, d2] [.int s0] h Q :=
  WP.rt rfl trivial k
theorem B115_50 {h : pm_H} {Q : Option Value → pm_H → Prop} {r0 : Nat} {r1 : Nat} {d2 : Option Value} (g1 : zT h r1 = 3) (k : WP 22 0 [some (.ref r1), none, none] [] h (fun v1 h1 => WP 115 55 [some (.ref r0), some (.ref r1), d2] (v1.toList ++ [.ref r0]) h1 Q)) : WP 115 50 [some (.ref r0), some (.ref r1), d2] [] h Q :=
  WP.nx rfl (WP.nx rfl (WP.cl rfl g1 k))
theorem B115_55 {h : pm_H} {Q : Option Value → pm_H → Prop} {d0 : Option Value} {d1 : Option Value} {d2 : Option Value} {s0 : Nat} {s1 : Int32} (g1 : zT h s0 = 12) (k : WP 106 0 [some (.ref s0), some (.int s1)] [] h (fun v1 h1 => WP 115 58 [d0, d1, d2] (v1.toList ++ []) h1 Q)) : WP 115 55 [d0, d1, d2] [.int s1, .ref s0] h Q :=
  WP.cl rfl g1 k
theorem B115_58 {h : pm_H} {Q : Option Value → pm_H → Prop} {d0 : Option Value} {d1 : Option Value} {d2 : Option Value} {s0 : Int32} (k : Q (some (.int s0)) h) : WP 115 58 [d0, d1, d2] [.int s0] h Q :=
  WP.rt rfl trivial k
theorem B115_59 {h : pm_H} {Q : Option Value → pm_H → Prop} {r0 : Nat} {r1 : Nat} {d2 : Option Value} {b2 : Nat} (g1 : zT h r0 = 12) (e3 : zR h r0 3 = some b2) (g4 : zT h b2 = 8) (k : WP 53 0 [some (.ref b2), some (.ref r1), none, none] [] h (fun v1 h1 => WP 115 68 [some (.ref r0), some (.ref r1), d2] (v1.toList ++ [.ref r0]) h1 Q)) : WP 115 59 [some (.ref r0), some (.ref r1), d2] [] h Q :=
  WP.nx rfl (WP.nx rfl (WP.gd rfl g1 (WP.top (congrArg va_rf e3) (WP.nx rfl (WP.cl rfl g4 k)))))
theorem B115_68 {h : pm_H} {Q : Option Value → pm_H → Prop} {d0 : Option Value} {d1 : Option Value} {d2 : Option Value} {s0 : Nat} {s1 : Int32} (g1 : zT h s0 = 12) (k : WP 106 0 [some (.ref s0), some (.int s1)] [] h (fun v1 h1 => WP 115 71 [d0, d1, d2] (v1.toList ++ []) h1 Q)) : WP 115 68 [d0, d1, d2] [.int s1, .ref s0] h Q :=
  WP.cl rfl g1 k
theorem B115_71 {h : pm_H} {Q : Option Value → pm_H → Prop} {d0 : Option Value} {d1 : Option Value} {d2 : Option Value} {s0 : Int32} (k : Q (some (.int s0)) h) : WP 115 71 [d0, d1, d2] [.int s0] h Q :=
  WP.rt rfl trivial k
theorem B115_72 {h : pm_H} {Q : Option Value → pm_H → Prop} {r0 : Nat} {d1 : Option Value} {d2 : Option Value} (g1 : zT h r0 = 12) (k : WP 107 0 [some (.ref r0), some (.int (Int32.ofInt 2))] [] h (fun v1 h1 => WP 115 77 [some (.ref r0), d1, d2] (v1.toList ++ []) h1 Q)) : WP 115 72 [some (.ref r0), d1, d2] [] h Q :=
  WP.nx rfl (WP.nx rfl (WP.cl rfl g1 k))
theorem B115_77 {h : pm_H} {Q : Option Value → pm_H → Prop} {d0 : Option Value} {d1 : Option Value} {d2 : Option Value} {s0 : Int32} (k : Q (some (.int s0)) h) : WP 115 77 [d0, d1, d2] [.int s0] h Q :=
  WP.rt rfl trivial k
/-! 116 StripCloth.tellPart(LStripCloth$Part;I)I -/
theorem B116_0 {h : pm_H} {Q : Option Value → pm_H → Prop} {d0 : Option Value} {d1 : Option Value} {x2 : Int32} (k : WP 116 (pm_tsw 76 0 3 #[32, 41, 50, 67] x2) [d0, d1, some (.int x2)] [] h Q) : WP 116 0 [d0, d1, some (.int x2)] [] h Q :=
  WP.nx rfl (WP.nx rfl (k))
theorem B116_32 {h : pm_H} {Q : Option Value → pm_H → Prop} {r0 : Nat} {r1 : Nat} {d2 : Option Value} (g1 : zT h r1 = 5) (g2 : zT h r0 = 12) (k : WP 106 0 [some (.ref r0), some (.int (zI h r1 1))] [] h (fun v1 h1 => WP 116 40 [some (.ref r0), some (.ref r1), d2] (v1.toList ++ []) h1 Q)) : WP 116 32 [some (.ref r0), some (.ref r1), d2] [] h Q :=
  WP.nx rfl (WP.nx rfl (WP.gd rfl g1 (WP.cl rfl g2 k)))
theorem B116_40 {h : pm_H} {Q : Option Value → pm_H → Prop} {d0 : Option Value} {d1 : Option Value} {d2 : Option Value} {s0 : Int32} (k : Q (some (.int s0)) h) : WP 116 40 [d0, d1, d2] [.int s0] h Q :=
  WP.rt rfl trivial k
theorem B116_41 {h : pm_H} {Q : Option Value → pm_H → Prop} {r0 : Nat} {r1 : Nat} {d2 : Option Value} (g1 : zT h r1 = 5) (g2 : zT h r0 = 12) (k : WP 106 0 [some (.ref r0), some (.int (zI h r1 3))] [] h (fun v1 h1 => WP 116 49 [some (.ref r0), some (.ref r1), d2] (v1.toList ++ []) h1 Q)) : WP 116 41 [some (.ref r0), some (.ref r1), d2] [] h Q :=
  WP.nx rfl (WP.nx rfl (WP.gd rfl g1 (WP.cl rfl g2 k)))
theorem B116_49 {h : pm_H} {Q : Option Value → pm_H → Prop} {d0 : Option Value} {d1 : Option Value} {d2 : Option Value} {s0 : Int32} (k : Q (some (.int s0)) h) : WP 116 49 [d0, d1, d2] [.int s0] h Q :=
  WP.rt rfl trivial k
theorem B116_50 {h : pm_H} {Q : Option Value → pm_H → Prop} {r0 : Nat} {r1 : Nat} {d2 : Option Value} (g1 : zT h r1 = 5) (kt : (zI h r1 2) = 0 → WP 116 62 [some (.ref r0), some (.ref r1), d2] [.ref r0] h Q) (kf : ¬ (zI h r1 2) = 0 → WP 116 58 [some (.ref r0), some (.ref r1), d2] [.ref r0] h Q) : WP 116 50 [some (.ref r0), some (.ref r1), d2] [] h Q :=
  WP.nx rfl (WP.nx rfl (WP.gd rfl g1 (WP.br rfl kt kf)))
theorem B116_58 {h : pm_H} {Q : Option Value → pm_H → Prop} {d0 : Option Value} {d1 : Option Value} {d2 : Option Value} {s0 : Nat} (k : WP 116 63 [d0, d1, d2] [.int (Int32.ofInt 1), .ref s0] h Q) : WP 116 58 [d0, d1, d2] [.ref s0] h Q :=
  WP.nx rfl (WP.nx rfl (k))
theorem B116_62 {h : pm_H} {Q : Option Value → pm_H → Prop} {d0 : Option Value} {d1 : Option Value} {d2 : Option Value} {s0 : Nat} (k : WP 116 63 [d0, d1, d2] [.int (Int32.ofInt 0), .ref s0] h Q) : WP 116 62 [d0, d1, d2] [.ref s0] h Q :=
  WP.nx rfl (k)
theorem B116_63 {h : pm_H} {Q : Option Value → pm_H → Prop} {d0 : Option Value} {d1 : Option Value} {d2 : Option Value} {s0 : Nat} {s1 : Int32} (g1 : zT h s0 = 12) (k : WP 106 0 [some (.ref s0), some (.int s1)] [] h (fun v1 h1 => WP 116 66 [d0, d1, d2] (v1.toList ++ []) h1 Q)) : WP 116 63 [d0, d1, d2] [.int s1, .ref s0] h Q :=
  WP.cl rfl g1 k
theorem B116_66 {h : pm_H} {Q : Option Value → pm_H → Prop} {d0 : Option Value} {d1 : Option Value} {d2 : Option Value} {s0 : Int32} (k : Q (some (.int s0)) h) : WP 116 66 [d0, d1, d2] [.int s0] h Q :=
  WP.rt rfl trivial k
theorem B116_67 {h : pm_H} {Q : Option Value → pm_H → Prop} {r0 : Nat} {r1 : Nat} {d2 : Option Value} (g1 : zT h r1 = 5) (k : WP 29 0 [some (.ref r1)] [] h (fun v1 h1 => WP 116 72 [some (.ref r0), some (.ref r1), d2] (v1.toList ++ [.ref r0]) h1 Q)) : WP 116 67 [some (.ref r0), some (.ref r1), d2] [] h Q :=
  WP.nx rfl (WP.nx rfl (WP.cl rfl g1 k))
theorem B116_72 {h : pm_H} {Q : Option Value → pm_H → Prop} {d0 : Option Value} {d1 : Option Value} {d2 : Option Value} {s0 : Nat} {s1 : Int32} (g1 : zT h s0 = 12) (k : WP 106 0 [some (.ref s0), some (.int s1)] [] h (fun v1 h1 => WP 116 75 [d0, d1, d2] (v1.toList ++ []) h1 Q)) : WP 116 72 [d0, d1, d2] [.int s1, .ref s0] h Q :=
  WP.cl rfl g1 k
theorem B116_75 {h : pm_H} {Q : Option Value → pm_H → Prop} {d0 : Option Value} {d1 : Option Value} {d2 : Option Value} {s0 : Int32} (k : Q (some (.int s0)) h) : WP 116 75 [d0, d1, d2] [.int s0] h Q :=
  WP.rt rfl trivial k
theorem B116_76 {h : pm_H} {Q : Option Value → pm_H → Prop} {r0 : Nat} {d1 : Option Value} {d2 : Option Value} (g1 : zT h r0 = 12) (k : WP 107 0 [some (.ref r0), some (.int (Int32.ofInt 2))] [] h (fun v1 h1 => WP 116 81 [some (.ref r0), d1, d2] (v1.toList ++ []) h1 Q)) : WP 116 76 [some (.ref r0), d1, d2] [] h Q :=
  WP.nx rfl (WP.nx rfl (WP.cl rfl g1 k))
theorem B116_81 {h : pm_H} {Q : Option Value → pm_H → Prop} {d0 : Option Value} {d1 : Option Value} {d2 : Option Value} {s0 : Int32} (k : Q (some (.int s0)) h) : WP 116 81 [d0, d1, d2] [.int s0] h Q :=
  WP.rt rfl trivial k
/-! 117 StripCloth.yarnFor(LStripCloth$Strip;I)I -/
theorem B117_0 {h : pm_H} {Q : Option Value → pm_H → Prop} {d0 : Option Value} {r1 : Nat} {x2 : Int32} {d3 : Option Value} (g1 : zT h r1 = 9) (k : WP 60 0 [some (.ref r1), some (.int x2), none, none] [] h (fun v1 h1 => WP 117 5 [d0, some (.ref r1), some (.int x2), d3] (v1.toList ++ []) h1 Q)) : WP 117 0 [d0, some (.ref r1), some (.int x2), d3] [] h Q :=
  WP.nx rfl (WP.nx rfl (WP.cl rfl g1 k))
theorem B117_5 {h : pm_H} {Q : Option Value → pm_H → Prop} {r0 : Nat} {d1 : Option Value} {x2 : Int32} {d3 : Option Value} {s0 : Int32} (g1 : zT h r0 = 12) (g2 : ¬ (Int32.ofInt 100) = 0) (k : Q (some (.int ((((s0 * (zI h r0 11)) * ((Int32.ofInt 100) + (zI h r0 12))) + (Int32.ofInt 99)) / (Int32.ofInt 100)))) h) : WP 117 5 [some (.ref r0), d1, some (.int x2), d3] [.int s0] h Q :=
  WP.nx rfl (WP.gd rfl g1 (WP.nx rfl (WP.nx rfl (WP.nx rfl (WP.gd rfl g1 (WP.nx rfl (WP.nx rfl (WP.nx rfl (WP.nx rfl (WP.nx rfl (WP.nx rfl (WP.nx rfl (WP.gd rfl g2 (WP.rt rfl trivial k))))))))))))))
/-! 118 StripCloth.gatherNeeds(LStripCloth$Cloth;I)I -/
theorem B118_0 {h : pm_H} {Q : Option Value → pm_H → Prop} {d0 : Option Value} {d1 : Option Value} {x2 : Int32} {d3 : Option Value} {d4 : Option Value} {d5 : Option Value} (k : WP 118 5 [d0, d1, some (.int x2), some (.int (Int32.ofInt 0)), some (.int (Int32.ofInt 0)), d5] [] h Q) : WP 118 0 [d0, d1, some (.int x2), d3, d4, d5] [] h Q :=
  WP.nx rfl (WP.nx rfl (WP.nx rfl (WP.nx rfl (k))))
theorem B118_5 {h : pm_H} {Q : Option Value → pm_H → Prop} {d0 : Option Value} {r1 : Nat} {d2 : Option Value} {d3 : Option Value} {x4 : Int32} {d5 : Option Value} (g1 : zT h r1 = 3) (kt : (zI h r1 2) ≤ x4 → WP 118 62 [d0, some (.ref r1), d2, d3, some (.int x4), d5] [] h Q) (kf : ¬ (zI h r1 2) ≤ x4 → WP 118 14 [d0, some (.ref r1), d2, d3, some (.int x4), d5] [] h Q) : WP 118 5 [d0, some (.ref r1), d2, d3, some (.int x4), d5] [] h Q :=
  WP.nx rfl (WP.nx rfl (WP.gd rfl g1 (WP.br rfl kt kf)))
theorem B118_14 {h : pm_H} {Q : Option Value → pm_H → Prop} {r0 : Nat} {r1 : Nat} {x2 : Int32} {d3 : Option Value} {x4 : Int32} {d5 : Option Value} {b2 : Nat} {b5 : Nat} {b8 : Nat} (g1 : zT h r1 = 3) (e3 : zR h r1 1 = some b2) (g4 : (zT h b2 = 103 ∨ zT h b2 = 104 ∨ zT h b2 = 105) ∧ vp_in x4 (zN h b2)) (e6 : zR h b2 (x4).toNatClampNeg = some b5) (g7 : zT h b5 = 5) (e9 : zR h b5 0 = some b8) (g10 : zT h r0 = 12) (k : WP 117 0 [some (.ref r0), some (.ref b8), some (.int x2), none] [] h (fun v1 h1 => WP 118 29 [some (.ref r0), some (.ref r1), some (.int x2), d3, some (.int x4), d5] (v1.toList ++ []) h1 Q)) : WP 118 14 [some (.ref r0), some (.ref r1), some (.int x2), d3, some (.int x4), d5] [] h Q :=
  WP.nx rfl (WP.nx rfl (WP.gd rfl g1 (WP.top (congrArg va_rf e3) (WP.nx rfl (WP.gd rfl g4 (WP.top (congrArg va_rf e6) (WP.gd rfl g7 (WP.top (congrArg va_rf e9) (WP.nx rfl (WP.cl rfl g10 k))))))))))
theorem B118_29 {h : pm_H} {Q : Option Value → pm_H → Prop} {d0 : Option Value} {d1 : Option Value} {d2 : Option Value} {d3 : Option Value} {x4 : Int32} {d5 : Option Value} {s0 : Int32} (kt : s0 ≤ 0 → WP 118 56 [d0, d1, d2, d3, some (.int x4), some (.int s0)] [] h Q) (kf : ¬ s0 ≤ 0 → WP 118 36 [d0, d1, d2, d3, some (.int x4), some (.int s0)] [] h Q) : WP 118 29 [d0, d1, d2, d3, some (.int x4), d5] [.int s0] h Q :=
  WP.nx rfl (WP.nx rfl (WP.br rfl kt kf))
theorem B118_36 {h : pm_H} {Q : Option Value → pm_H → Prop} {d0 : Option Value} {d1 : Option Value} {d2 : Option Value} {x3 : Int32} {d4 : Option Value} {d5 : Option Value} (kt : (Int32.ofInt 8) ≤ x3 → WP 118 53 [d0, d1, d2, some (.int x3), d4, d5] [] h Q) (kf : ¬ (Int32.ofInt 8) ≤ x3 → WP 118 42 [d0, d1, d2, some (.int x3), d4, d5] [] h Q) : WP 118 36 [d0, d1, d2, some (.int x3), d4, d5] [] h Q :=
  WP.nx rfl (WP.nx rfl (WP.br rfl kt kf))
theorem B118_42 {h : pm_H} {Q : Option Value → pm_H → Prop} {r0 : Nat} {d1 : Option Value} {d2 : Option Value} {x3 : Int32} {d4 : Option Value} {x5 : Int32} {b2 : Nat} {b5 : Nat} (g1 : zT h r0 = 12) (e3 : zR h r0 6 = some b2) (g4 : zT h b2 = 4) (e6 : zR h b2 3 = some b5) (g7 : zT h b5 = 100 ∧ vp_in x3 (zN h b5)) (k : WP 118 53 [some (.ref r0), d1, d2, some (.int x3), d4, some (.int x5)] [] (yI h b5 (x3).toNatClampNeg x5) Q) : WP 118 42 [some (.ref r0), d1, d2, some (.int x3), d4, some (.int x5)] [] h Q :=
  WP.nx rfl (WP.gd rfl g1 (WP.top (congrArg va_rf e3) (WP.gd rfl g4 (WP.top (congrArg va_rf e6) (WP.nx rfl (WP.nx rfl (WP.gd rfl g7 (k))))))))
theorem B118_53 {h : pm_H} {Q : Option Value → pm_H → Prop} {d0 : Option Value} {d1 : Option Value} {x2 : Int32} {x3 : Int32} {d4 : Option Value} {d5 : Option Value} (k : WP 118 56 [d0, d1, some (.int x2), some (.int (x3 + (Int32.ofInt 1))), d4, d5] [] h Q) : WP 118 53 [d0, d1, some (.int x2), some (.int x3), d4, d5] [] h Q :=
  WP.nx rfl (k)
theorem B118_56 {h : pm_H} {Q : Option Value → pm_H → Prop} {d0 : Option Value} {d1 : Option Value} {d2 : Option Value} {x3 : Int32} {x4 : Int32} {d5 : Option Value} (k : WP 118 5 [d0, d1, d2, some (.int x3), some (.int (x4 + (Int32.ofInt 1))), d5] [] h Q) : WP 118 56 [d0, d1, d2, some (.int x3), some (.int x4), d5] [] h Q :=
  WP.nx rfl (WP.nx rfl (k))
theorem B118_62 {h : pm_H} {Q : Option Value → pm_H → Prop} {d0 : Option Value} {d1 : Option Value} {d2 : Option Value} {x3 : Int32} {d4 : Option Value} {d5 : Option Value} (k : Q (some (.int x3)) h) : WP 118 62 [d0, d1, d2, some (.int x3), d4, d5] [] h Q :=
  WP.nx rfl (WP.rt rfl trivial k)
/-! 119 StripCloth.leastCost(LStripCloth$Strip;LStripCloth$Strip;)I -/
theorem B119_0 {h : pm_H} {Q : Option Value → pm_H → Prop} {r0 : Nat} {d1 : Option Value} {r2 : Nat} {d3 : Option Value} {d4 : Option Value} {b2 : Nat} {b6 : Nat} (g1 : zT h r2 = 9) (e3 : zR h r2 2 = some b2) (g4 : 100 ≤ zT h b2 ∧ zT h b2 ≤ 105) (g5 : zT h r0 = 12) (e7 : zR h r0 8 = some b6) (g8 : zT h b6 = 100 ∧ vp_in (Int32.ofInt 0) (zN h b6)) (k : WP 119 16 [some (.ref r0), d1, some (.ref r2), some (.int (Int32.ofInt (zN h b2))), some (.int (Int32.ofInt 0))] [] (yI h b6 ((Int32.ofInt 0)).toNatClampNeg (Int32.ofInt 0)) Q) : WP 119 0 [some (.ref r0), d1, some (.ref r2), d3, d4] [] h Q :=
  WP.nx rfl (WP.gd rfl g1 (WP.top (congrArg va_rf e3) (WP.gd rfl g4 (WP.nx rfl (WP.nx rfl (WP.gd rfl g5 (WP.top (congrArg va_rf e7) (WP.nx rfl (WP.nx rfl (WP.gd rfl g8 (WP.nx rfl (WP.nx rfl (k)))))))))))))
theorem B119_16 {h : pm_H} {Q : Option Value → pm_H → Prop} {d0 : Option Value} {d1 : Option Value} {d2 : Option Value} {x3 : Int32} {x4 : Int32} (kt : x3 ≤ x4 → WP 119 51 [d0, d1, d2, some (.int x3), some (.int x4)] [] h Q) (kf : ¬ x3 ≤ x4 → WP 119 22 [d0, d1, d2, some (.int x3), some (.int x4)] [] h Q) : WP 119 16 [d0, d1, d2, some (.int x3), some (.int x4)] [] h Q :=
  WP.nx rfl (WP.nx rfl (WP.br rfl kt kf))
theorem B119_22 {h : pm_H} {Q : Option Value → pm_H → Prop} {r0 : Nat} {d1 : Option Value} {r2 : Nat} {d3 : Option Value} {x4 : Int32} {b2 : Nat} (g1 : zT h r0 = 12) (e3 : zR h r0 8 = some b2) (g4 : zT h b2 = 100 ∧ vp_in x4 (zN h b2)) (g5 : zT h r2 = 9) (k : WP 59 0 [some (.ref r2), some (.int x4)] [] h (fun v1 h1 => WP 119 43 [some (.ref r0), d1, some (.ref r2), d3, some (.int x4)] (v1.toList ++ [.int (zI h b2 (x4).toNatClampNeg), .int (x4 + (Int32.ofInt 1)), .ref b2]) h1 Q)) : WP 119 22 [some (.ref r0), d1, some (.ref r2), d3, some (.int x4)] [] h Q :=
  WP.nx rfl (WP.gd rfl g1 (WP.top (congrArg va_rf e3) (WP.nx rfl (WP.nx rfl (WP.nx rfl (WP.nx rfl (WP.gd rfl g1 (WP.top (congrArg va_rf e3) (WP.nx rfl (WP.gd rfl g4 (WP.nx rfl (WP.nx rfl (WP.cl rfl g5 k)))))))))))))
theorem B119_43 {h : pm_H} {Q : Option Value → pm_H → Prop} {d0 : Option Value} {d1 : Option Value} {d2 : Option Value} {x3 : Int32} {x4 : Int32} {s0 : Nat} {s1 : Int32} {s2 : Int32} {s3 : Int32} (g1 : zT h s0 = 100 ∧ vp_in s1 (zN h s0)) (k : WP 119 16 [d0, d1, d2, some (.int x3), some (.int (x4 + (Int32.ofInt 1)))] [] (yI h s0 (s1).toNatClampNeg (s2 + s3)) Q) : WP 119 43 [d0, d1, d2, some (.int x3), some (.int x4)] [.int s3, .int s2, .int s1, .ref s0] h Q :=
  WP.nx rfl (WP.gd rfl g1 (WP.nx rfl (WP.nx rfl (k))))
theorem B119_51 {h : pm_H} {Q : Option Value → pm_H → Prop} {d0 : Option Value} {d1 : Option Value} {d2 : Option Value} {x3 : Int32} {d4 : Option Value} (k : WP 119 54 [d0, d1, d2, some (.int x3), some (.int (Int32.ofInt 0))] [] h Q) : WP 119 51 [d0, d1, d2, some (.int x3), d4] [] h Q :=
  WP.nx rfl (WP.nx rfl (k))
theorem B119_54 {h : pm_H} {Q : Option Value → pm_H → Prop} {d0 : Option Value} {r1 : Nat} {d2 : Option Value} {d3 : Option Value} {x4 : Int32} {b2 : Nat} (g1 : zT h r1 = 9) (e3 : zR h r1 2 = some b2) (g4 : 100 ≤ zT h b2 ∧ zT h b2 ≤ 105) (kt : (Int32.ofInt (zN h b2)) ≤ x4 → WP 119 87 [d0, some (.ref r1), d2, d3, some (.int x4)] [] h Q) (kf : ¬ (Int32.ofInt (zN h b2)) ≤ x4 → WP 119 64 [d0, some (.ref r1), d2, d3, some (.int x4)] [] h Q) : WP 119 54 [d0, some (.ref r1), d2, d3, some (.int x4)] [] h Q :=
  WP.nx rfl (WP.nx rfl (WP.gd rfl g1 (WP.top (congrArg va_rf e3) (WP.gd rfl g4 (WP.br rfl kt kf)))))
theorem B119_64 {h : pm_H} {Q : Option Value → pm_H → Prop} {r0 : Nat} {r1 : Nat} {d2 : Option Value} {d3 : Option Value} {x4 : Int32} (g1 : zT h r1 = 9) (k : WP 58 0 [some (.ref r1), some (.int x4)] [] h (fun v1 h1 => WP 119 71 [some (.ref r0), some (.ref r1), d2, d3, some (.int x4)] (v1.toList ++ [.ref r0]) h1 Q)) : WP 119 64 [some (.ref r0), some (.ref r1), d2, d3, some (.int x4)] [] h Q :=
  WP.nx rfl (WP.nx rfl (WP.nx rfl (WP.cl rfl g1 k)))
theorem B119_71 {h : pm_H} {Q : Option Value → pm_H → Prop} {d0 : Option Value} {r1 : Nat} {d2 : Option Value} {d3 : Option Value} {x4 : Int32} {s0 : Nat} {s1 : Int32} (g1 : zT h r1 = 9) (k : WP 59 0 [some (.ref r1), some (.int x4)] [] h (fun v1 h1 => WP 119 77 [d0, some (.ref r1), d2, d3, some (.int x4)] (v1.toList ++ [.int s1, .ref s0]) h1 Q)) : WP 119 71 [d0, some (.ref r1), d2, d3, some (.int x4)] [.int s1, .ref s0] h Q :=
  WP.nx rfl (WP.nx rfl (WP.cl rfl g1 k))
theorem B119_77 {h : pm_H} {Q : Option Value → pm_H → Prop} {d0 : Option Value} {d1 : Option Value} {r2 : Nat} {d3 : Option Value} {d4 : Option Value} {s0 : Nat} {s1 : Int32} {s2 : Int32} (g1 : zT h s0 = 12) (k : WP 120 0 [some (.ref s0), some (.int s1), some (.int s2), some (.ref r2), none, none, none, none, none] [] h (fun v1 h1 => WP 119 81 [d0, d1, some (.ref r2), d3, d4] (v1.toList ++ []) h1 Q)) : WP 119 77 [d0, d1, some (.ref r2), d3, d4] [.int s2, .int s1, .ref s0] h Q :=
  WP.nx rfl (WP.cl rfl g1 k)
theorem B119_81 {h : pm_H} {Q : Option Value → pm_H → Prop} {d0 : Option Value} {d1 : Option Value} {d2 : Option Value} {x3 : Int32} {x4 : Int32} (k : WP 119 54 [d0, d1, d2, some (.int x3), some (.int (x4 + (Int32.ofInt 1)))] [] h Q) : WP 119 81 [d0, d1, d2, some (.int x3), some (.int x4)] [] h Q :=
  WP.nx rfl (WP.nx rfl (k))
theorem B119_87 {h : pm_H} {Q : Option Value → pm_H → Prop} {r0 : Nat} {d1 : Option Value} {d2 : Option Value} {x3 : Int32} {d4 : Option Value} {b2 : Nat} (g1 : zT h r0 = 12) (e3 : zR h r0 8 = some b2) (g4 : zT h b2 = 100 ∧ vp_in x3 (zN h b2)) (k : Q (some (.int (zI h b2 (x3).toNatClampNeg))) h) : WP 119 87 [some (.ref r0), d1, d2, some (.int x3), d4] [] h Q :=
  WP.nx rfl (WP.gd rfl g1 (WP.top (congrArg va_rf e3) (WP.nx rfl (WP.gd rfl g4 (WP.rt rfl trivial k)))))
/-! 120 StripCloth.addBlockToFarRow(IILStripCloth$Strip;)V -/
theorem B120_0 {h : pm_H} {Q : Option Value → pm_H → Prop} {r0 : Nat} {d1 : Option Value} {x2 : Int32} {r3 : Nat} {d4 : Option Value} {d5 : Option Value} {d6 : Option Value} {d7 : Option Value} {d8 : Option Value} {b2 : Nat} (g1 : zT h r0 = 12) (e3 : zR h r0 8 = some b2) (g4 : zT h b2 = 100 ∧ vp_in (Int32.ofInt 0) (zN h b2)) (k : WP 120 21 [some (.ref r0), d1, some (.int x2), some (.ref r3), some (.int (zI h b2 ((Int32.ofInt 0)).toNatClampNeg)), some (.int (Int32.ofInt 0)), d6, d7, d8] [] (yI h b2 ((Int32.ofInt 0)).toNatClampNeg ((zI h b2 ((Int32.ofInt 0)).toNatClampNeg) + x2)) Q) : WP 120 0 [some (.ref r0), d1, some (.int x2), some (.ref r3), d4, d5, d6, d7, d8] [] h Q :=
  WP.nx rfl (WP.gd rfl g1 (WP.top (congrArg va_rf e3) (WP.nx rfl (WP.gd rfl g4 (WP.nx rfl (WP.nx rfl (WP.gd rfl g1 (WP.top (congrArg va_rf e3) (WP.nx rfl (WP.nx rfl (WP.nx rfl (WP.nx rfl (WP.gd rfl g4 (WP.nx rfl (WP.nx rfl (k))))))))))))))))
theorem B120_21 {h : pm_H} {Q : Option Value → pm_H → Prop} {d0 : Option Value} {d1 : Option Value} {d2 : Option Value} {r3 : Nat} {d4 : Option Value} {x5 : Int32} {d6 : Option Value} {d7 : Option Value} {d8 : Option Value} {b2 : Nat} (g1 : zT h r3 = 9) (e3 : zR h r3 2 = some b2) (g4 : 100 ≤ zT h b2 ∧ zT h b2 ≤ 105) (kt : (Int32.ofInt (zN h b2)) ≤ x5 → WP 120 116 [d0, d1, d2, some (.ref r3), d4, some (.int x5), d6, d7, d8] [] h Q) (kf : ¬ (Int32.ofInt (zN h b2)) ≤ x5 → WP 120 31 [d0, d1, d2, some (.ref r3), d4, some (.int x5), d6, d7, d8] [] h Q) : WP 120 21 [d0, d1, d2, some (.ref r3), d4, some (.int x5), d6, d7, d8] [] h Q :=
  WP.nx rfl (WP.nx rfl (WP.gd rfl g1 (WP.top (congrArg va_rf e3) (WP.gd rfl g4 (WP.br rfl kt kf)))))
theorem B120_31 {h : pm_H} {Q : Option Value → pm_H → Prop} {d0 : Option Value} {d1 : Option Value} {d2 : Option Value} {r3 : Nat} {d4 : Option Value} {x5 : Int32} {d6 : Option Value} {d7 : Option Value} {d8 : Option Value} (g1 : zT h r3 = 9) (k : WP 59 0 [some (.ref r3), some (.int x5)] [] h (fun v1 h1 => WP 120 37 [d0, d1, d2, some (.ref r3), d4, some (.int x5), d6, d7, d8] (v1.toList ++ []) h1 Q)) : WP 120 31 [d0, d1, d2, some (.ref r3), d4, some (.int x5), d6, d7, d8] [] h Q :=
  WP.nx rfl (WP.nx rfl (WP.cl rfl g1 k))
theorem B120_37 {h : pm_H} {Q : Option Value → pm_H → Prop} {d0 : Option Value} {x1 : Int32} {x2 : Int32} {r3 : Nat} {x4 : Int32} {x5 : Int32} {d6 : Option Value} {d7 : Option Value} {d8 : Option Value} {s0 : Int32} (g1 : zT h r3 = 9) (k : WP 58 0 [some (.ref r3), some (.int x5)] [] h (fun v1 h1 => WP 120 58 [d0, some (.int x1), some (.int x2), some (.ref r3), some (.int x4), some (.int x5), some (.int s0), some (.int (x4 + (if 0 ≤ (x2 - s0) then (x2 - s0) else 0 - (x2 - s0)))), d8] (v1.toList ++ [.int x1]) h1 Q)) : WP 120 37 [d0, some (.int x1), some (.int x2), some (.ref r3), some (.int x4), some (.int x5), d6, d7, d8] [.int s0] h Q :=
  WP.nx rfl (WP.nx rfl (WP.nx rfl (WP.nx rfl (WP.nx rfl (WP.nx rfl (WP.nx rfl (WP.nx rfl (WP.nx rfl (WP.nx rfl (WP.nx rfl (WP.cl rfl g1 k)))))))))))
theorem B120_58 {h : pm_H} {Q : Option Value → pm_H → Prop} {d0 : Option Value} {d1 : Option Value} {d2 : Option Value} {d3 : Option Value} {d4 : Option Value} {d5 : Option Value} {d6 : Option Value} {d7 : Option Value} {d8 : Option Value} {s0 : Int32} {s1 : Int32} (kt : s0 = s1 → WP 120 64 [d0, d1, d2, d3, d4, d5, d6, d7, d8] [] h Q) (kf : ¬ s0 = s1 → WP 120 61 [d0, d1, d2, d3, d4, d5, d6, d7, d8] [] h Q) : WP 120 58 [d0, d1, d2, d3, d4, d5, d6, d7, d8] [.int s1, .int s0] h Q :=
  WP.br rfl kt kf
theorem B120_61 {h : pm_H} {Q : Option Value → pm_H → Prop} {d0 : Option Value} {d1 : Option Value} {d2 : Option Value} {d3 : Option Value} {d4 : Option Value} {d5 : Option Value} {x6 : Int32} {x7 : Int32} {d8 : Option Value} (k : WP 120 64 [d0, d1, d2, d3, d4, d5, some (.int x6), some (.int (x7 + (Int32.ofInt 5))), d8] [] h Q) : WP 120 61 [d0, d1, d2, d3, d4, d5, some (.int x6), some (.int x7), d8] [] h Q :=
  WP.nx rfl (k)
theorem B120_64 {h : pm_H} {Q : Option Value → pm_H → Prop} {r0 : Nat} {d1 : Option Value} {x2 : Int32} {r3 : Nat} {d4 : Option Value} {x5 : Int32} {x6 : Int32} {x7 : Int32} {d8 : Option Value} {b2 : Nat} (g1 : zT h r0 = 12) (e3 : zR h r0 8 = some b2) (g4 : zT h b2 = 100 ∧ vp_in (x5 + (Int32.ofInt 1)) (zN h b2)) (g5 : zT h b2 = 100 ∧ vp_in x5 (zN h b2)) (k : WP 120 21 [some (.ref r0), d1, some (.int x2), some (.ref r3), some (.int (zI h b2 ((x5 + (Int32.ofInt 1))).toNatClampNeg)), some (.int (x5 + (Int32.ofInt 1))), some (.int x6), some (.int x7), some (.int (if ((zI h b2 (x5).toNatClampNeg) + x6) < ((zI h b2 ((x5 + (Int32.ofInt 1))).toNatClampNeg) + x2) then ((zI h b2 (x5).toNatClampNeg) + x6) else ((zI h b2 ((x5 + (Int32.ofInt 1))).toNatClampNeg) + x2)))] [] (yI h b2 ((x5 + (Int32.ofInt 1))).toNatClampNeg (if (if ((zI h b2 (x5).toNatClampNeg) + x6) < ((zI h b2 ((x5 + (Int32.ofInt 1))).toNatClampNeg) + x2) then ((zI h b2 (x5).toNatClampNeg) + x6) else ((zI h b2 ((x5 + (Int32.ofInt 1))).toNatClampNeg) + x2)) < x7 then (if ((zI h b2 (x5).toNatClampNeg) + x6) < ((zI h b2 ((x5 + (Int32.ofInt 1))).toNatClampNeg) + x2) then ((zI h b2 (x5).toNatClampNeg) + x6) else ((zI h b2 ((x5 + (Int32.ofInt 1))).toNatClampNeg) + x2)) else x7)) Q) : WP 120 64 [some (.ref r0), d1, some (.int x2), some (.ref r3), d4, some (.int x5), some (.int x6), some (.int x7), d8] [] h Q :=
  WP.nx rfl (WP.gd rfl g1 (WP.top (congrArg va_rf e3) (WP.nx rfl (WP.nx rfl (WP.nx rfl (WP.gd rfl g4 (WP.nx rfl (WP.nx rfl (WP.nx rfl (WP.nx rfl (WP.nx rfl (WP.gd rfl g1 (WP.top (congrArg va_rf e3) (WP.nx rfl (WP.gd rfl g5 (WP.nx rfl (WP.nx rfl (WP.nx rfl (WP.nx rfl (WP.nx rfl (WP.gd rfl g1 (WP.top (congrArg va_rf e3) (WP.nx rfl (WP.nx rfl (WP.nx rfl (WP.nx rfl (WP.nx rfl (WP.nx rfl (WP.gd rfl g4 (WP.nx rfl (WP.nx rfl (k))))))))))))))))))))))))))))))))
theorem B120_116 {h : pm_H} {Q : Option Value → pm_H → Prop} {d0 : Option Value} {d1 : Option Value} {d2 : Option Value} {d3 : Option Value} {d4 : Option Value} {d5 : Option Value} {d6 : Option Value} {d7 : Option Value} {d8 : Option Value} (k : Q none h) : WP 120 116 [d0, d1, d2, d3, d4, d5, d6, d7, d8] [] h Q :=
  WP.rt rfl trivial k
