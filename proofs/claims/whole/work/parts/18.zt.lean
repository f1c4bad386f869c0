theorem zt_96_0 {d : Nat} {L : ZL} {st : List ZV} {h : ZH} {Q : Option ZV → ZH → Prop} : zT d 96 0 L st h Q = zX (some ((2, 0, 0, 0, []), 1)) d 96 L st h Q := zT_eq rfl
theorem zt_96_1 {d : Nat} {L : ZL} {st : List ZV} {h : ZH} {Q : Option ZV → ZH → Prop} : zT d 96 1 L st h Q = zX (some ((21, 6, 3, 16, [0]), 4)) d 96 L st h Q := zT_eq rfl
theorem zt_96_4 {d : Nat} {L : ZL} {st : List ZV} {h : ZH} {Q : Option ZV → ZH → Prop} : zT d 96 4 L st h Q = zX (some ((1, 3, 0, 0, []), 5)) d 96 L st h Q := zT_eq rfl
theorem zt_96_5 {d : Nat} {L : ZL} {st : List ZV} {h : ZH} {Q : Option ZV → ZH → Prop} : zT d 96 5 L st h Q = zX (some ((24, 0, 0, 0, []), 6)) d 96 L st h Q := zT_eq rfl
theorem zt_96_6 {d : Nat} {L : ZL} {st : List ZV} {h : ZH} {Q : Option ZV → ZH → Prop} : zT d 96 6 L st h Q = zX (some ((0, 0, 0, 2, []), 7)) d 96 L st h Q := zT_eq rfl
theorem zt_96_7 {d : Nat} {L : ZL} {st : List ZV} {h : ZH} {Q : Option ZV → ZH → Prop} : zT d 96 7 L st h Q = zX (some ((11, 76, 1, 0, []), 10)) d 96 L st h Q := zT_eq rfl
theorem zt_96_10 {d : Nat} {L : ZL} {st : List ZV} {h : ZH} {Q : Option ZV → ZH → Prop} : zT d 96 10 L st h Q = zX (some ((2, 0, 0, 0, []), 11)) d 96 L st h Q := zT_eq rfl
theorem zt_96_11 {d : Nat} {L : ZL} {st : List ZV} {h : ZH} {Q : Option ZV → ZH → Prop} : zT d 96 11 L st h Q = zX (some ((1, 1, 0, 0, []), 12)) d 96 L st h Q := zT_eq rfl
theorem zt_96_12 {d : Nat} {L : ZL} {st : List ZV} {h : ZH} {Q : Option ZV → ZH → Prop} : zT d 96 12 L st h Q = zX (some ((40, 95, 2, 193, [1, 6]), 15)) d 96 L st h Q := zT_eq rfl
theorem zt_96_15 {d : Nat} {L : ZL} {st : List ZV} {h : ZH} {Q : Option ZV → ZH → Prop} : zT d 96 15 L st h Q = zX (some ((3, 5, 1, 0, []), 17)) d 96 L st h Q := zT_eq rfl
theorem zt_96_17 {d : Nat} {L : ZL} {st : List ZV} {h : ZH} {Q : Option ZV → ZH → Prop} : zT d 96 17 L st h Q = zX (some ((2, 0, 0, 0, []), 18)) d 96 L st h Q := zT_eq rfl
theorem zt_96_18 {d : Nat} {L : ZL} {st : List ZV} {h : ZH} {Q : Option ZV → ZH → Prop} : zT d 96 18 L st h Q = zX (some ((21, 6, 29, 86, [0]), 21)) d 96 L st h Q := zT_eq rfl
theorem zt_96_21 {d : Nat} {L : ZL} {st : List ZV} {h : ZH} {Q : Option ZV → ZH → Prop} : zT d 96 21 L st h Q = zX (some ((1, 5, 1, 0, []), 23)) d 96 L st h Q := zT_eq rfl
theorem zt_96_23 {d : Nat} {L : ZL} {st : List ZV} {h : ZH} {Q : Option ZV → ZH → Prop} : zT d 96 23 L st h Q = zX (some ((0, 0, 0, -1, []), 24)) d 96 L st h Q := zT_eq rfl
theorem zt_96_24 {d : Nat} {L : ZL} {st : List ZV} {h : ZH} {Q : Option ZV → ZH → Prop} : zT d 96 24 L st h Q = zX (some ((25, 0, 0, 0, []), 25)) d 96 L st h Q := zT_eq rfl
theorem zt_96_25 {d : Nat} {L : ZL} {st : List ZV} {h : ZH} {Q : Option ZV → ZH → Prop} : zT d 96 25 L st h Q = zX (some ((2, 0, 0, 0, []), 26)) d 96 L st h Q := zT_eq rfl
theorem zt_96_26 {d : Nat} {L : ZL} {st : List ZV} {h : ZH} {Q : Option ZV → ZH → Prop} : zT d 96 26 L st h Q = zX (some ((21, 6, 25, 74, [0]), 29)) d 96 L st h Q := zT_eq rfl
theorem zt_96_29 {d : Nat} {L : ZL} {st : List ZV} {h : ZH} {Q : Option ZV → ZH → Prop} : zT d 96 29 L st h Q = zX (some ((1, 5, 1, 0, []), 31)) d 96 L st h Q := zT_eq rfl
theorem zt_96_31 {d : Nat} {L : ZL} {st : List ZV} {h : ZH} {Q : Option ZV → ZH → Prop} : zT d 96 31 L st h Q = zX (some ((0, 0, 0, 0, []), 32)) d 96 L st h Q := zT_eq rfl
theorem zt_96_32 {d : Nat} {L : ZL} {st : List ZV} {h : ZH} {Q : Option ZV → ZH → Prop} : zT d 96 32 L st h Q = zX (some ((25, 0, 0, 0, []), 33)) d 96 L st h Q := zT_eq rfl
theorem zt_96_33 {d : Nat} {L : ZL} {st : List ZV} {h : ZH} {Q : Option ZV → ZH → Prop} : zT d 96 33 L st h Q = zX (some ((2, 0, 0, 0, []), 34)) d 96 L st h Q := zT_eq rfl
theorem zt_96_34 {d : Nat} {L : ZL} {st : List ZV} {h : ZH} {Q : Option ZV → ZH → Prop} : zT d 96 34 L st h Q = zX (some ((21, 6, 22, 65, [0]), 37)) d 96 L st h Q := zT_eq rfl
theorem zt_96_37 {d : Nat} {L : ZL} {st : List ZV} {h : ZH} {Q : Option ZV → ZH → Prop} : zT d 96 37 L st h Q = zX (some ((1, 4, 1, 0, []), 39)) d 96 L st h Q := zT_eq rfl
theorem zt_96_39 {d : Nat} {L : ZL} {st : List ZV} {h : ZH} {Q : Option ZV → ZH → Prop} : zT d 96 39 L st h Q = zX (some ((1, 5, 1, 0, []), 41)) d 96 L st h Q := zT_eq rfl
theorem zt_96_41 {d : Nat} {L : ZL} {st : List ZV} {h : ZH} {Q : Option ZV → ZH → Prop} : zT d 96 41 L st h Q = zX (some ((25, 0, 0, 0, []), 42)) d 96 L st h Q := zT_eq rfl
theorem zt_96_42 {d : Nat} {L : ZL} {st : List ZV} {h : ZH} {Q : Option ZV → ZH → Prop} : zT d 96 42 L st h Q = zX (some ((2, 0, 0, 0, []), 43)) d 96 L st h Q := zT_eq rfl
theorem zt_96_43 {d : Nat} {L : ZL} {st : List ZV} {h : ZH} {Q : Option ZV → ZH → Prop} : zT d 96 43 L st h Q = zX (some ((21, 6, 23, 68, [0]), 46)) d 96 L st h Q := zT_eq rfl
theorem zt_96_46 {d : Nat} {L : ZL} {st : List ZV} {h : ZH} {Q : Option ZV → ZH → Prop} : zT d 96 46 L st h Q = zX (some ((1, 4, 1, 0, []), 48)) d 96 L st h Q := zT_eq rfl
theorem zt_96_48 {d : Nat} {L : ZL} {st : List ZV} {h : ZH} {Q : Option ZV → ZH → Prop} : zT d 96 48 L st h Q = zX (some ((2, 0, 0, 0, []), 49)) d 96 L st h Q := zT_eq rfl
theorem zt_96_49 {d : Nat} {L : ZL} {st : List ZV} {h : ZH} {Q : Option ZV → ZH → Prop} : zT d 96 49 L st h Q = zX (some ((21, 6, 6, 25, [0]), 52)) d 96 L st h Q := zT_eq rfl
theorem zt_96_52 {d : Nat} {L : ZL} {st : List ZV} {h : ZH} {Q : Option ZV → ZH → Prop} : zT d 96 52 L st h Q = zX (some ((1, 3, 0, 0, []), 53)) d 96 L st h Q := zT_eq rfl
theorem zt_96_53 {d : Nat} {L : ZL} {st : List ZV} {h : ZH} {Q : Option ZV → ZH → Prop} : zT d 96 53 L st h Q = zX (some ((24, 0, 0, 0, []), 54)) d 96 L st h Q := zT_eq rfl
theorem zt_96_54 {d : Nat} {L : ZL} {st : List ZV} {h : ZH} {Q : Option ZV → ZH → Prop} : zT d 96 54 L st h Q = zX (some ((0, 0, 0, 1, []), 55)) d 96 L st h Q := zT_eq rfl
theorem zt_96_55 {d : Nat} {L : ZL} {st : List ZV} {h : ZH} {Q : Option ZV → ZH → Prop} : zT d 96 55 L st h Q = zX (some ((11, 62, 1, 0, []), 58)) d 96 L st h Q := zT_eq rfl
theorem zt_96_58 {d : Nat} {L : ZL} {st : List ZV} {h : ZH} {Q : Option ZV → ZH → Prop} : zT d 96 58 L st h Q = zX (some ((0, 0, 0, 1, []), 59)) d 96 L st h Q := zT_eq rfl
theorem zt_96_59 {d : Nat} {L : ZL} {st : List ZV} {h : ZH} {Q : Option ZV → ZH → Prop} : zT d 96 59 L st h Q = zX (some ((13, 63, 0, 0, []), 62)) d 96 L st h Q := zT_eq rfl
theorem zt_96_62 {d : Nat} {L : ZL} {st : List ZV} {h : ZH} {Q : Option ZV → ZH → Prop} : zT d 96 62 L st h Q = zX (some ((0, 0, 0, 0, []), 63)) d 96 L st h Q := zT_eq rfl
theorem zt_96_63 {d : Nat} {L : ZL} {st : List ZV} {h : ZH} {Q : Option ZV → ZH → Prop} : zT d 96 63 L st h Q = zX (some ((27, 0, 0, 0, []), 64)) d 96 L st h Q := zT_eq rfl
theorem zt_96_64 {d : Nat} {L : ZL} {st : List ZV} {h : ZH} {Q : Option ZV → ZH → Prop} : zT d 96 64 L st h Q = zX (some ((2, 0, 0, 0, []), 65)) d 96 L st h Q := zT_eq rfl
theorem zt_96_65 {d : Nat} {L : ZL} {st : List ZV} {h : ZH} {Q : Option ZV → ZH → Prop} : zT d 96 65 L st h Q = zX (some ((21, 6, 24, 71, [0]), 68)) d 96 L st h Q := zT_eq rfl
theorem zt_96_68 {d : Nat} {L : ZL} {st : List ZV} {h : ZH} {Q : Option ZV → ZH → Prop} : zT d 96 68 L st h Q = zX (some ((1, 4, 1, 0, []), 70)) d 96 L st h Q := zT_eq rfl
theorem zt_96_70 {d : Nat} {L : ZL} {st : List ZV} {h : ZH} {Q : Option ZV → ZH → Prop} : zT d 96 70 L st h Q = zX (some ((0, 0, 0, 4, []), 71)) d 96 L st h Q := zT_eq rfl
theorem zt_96_71 {d : Nat} {L : ZL} {st : List ZV} {h : ZH} {Q : Option ZV → ZH → Prop} : zT d 96 71 L st h Q = zX (some ((6, 0, 3, 0, []), 72)) d 96 L st h Q := zT_eq rfl
theorem zt_96_72 {d : Nat} {L : ZL} {st : List ZV} {h : ZH} {Q : Option ZV → ZH → Prop} : zT d 96 72 L st h Q = zX (some ((0, 0, 0, 1, []), 73)) d 96 L st h Q := zT_eq rfl
theorem zt_96_73 {d : Nat} {L : ZL} {st : List ZV} {h : ZH} {Q : Option ZV → ZH → Prop} : zT d 96 73 L st h Q = zX (some ((27, 0, 0, 0, []), 74)) d 96 L st h Q := zT_eq rfl
theorem zt_96_74 {d : Nat} {L : ZL} {st : List ZV} {h : ZH} {Q : Option ZV → ZH → Prop} : zT d 96 74 L st h Q = zX (some ((0, 0, 0, 1, []), 75)) d 96 L st h Q := zT_eq rfl
theorem zt_96_75 {d : Nat} {L : ZL} {st : List ZV} {h : ZH} {Q : Option ZV → ZH → Prop} : zT d 96 75 L st h Q = zX (some ((51, 0, 1, 0, []), 76)) d 96 L st h Q := zT_eq rfl
theorem zt_96_76 {d : Nat} {L : ZL} {st : List ZV} {h : ZH} {Q : Option ZV → ZH → Prop} : zT d 96 76 L st h Q = zX (some ((2, 0, 0, 0, []), 77)) d 96 L st h Q := zT_eq rfl
theorem zt_96_77 {d : Nat} {L : ZL} {st : List ZV} {h : ZH} {Q : Option ZV → ZH → Prop} : zT d 96 77 L st h Q = zX (some ((21, 6, 22, 65, [0]), 80)) d 96 L st h Q := zT_eq rfl
theorem zt_96_80 {d : Nat} {L : ZL} {st : List ZV} {h : ZH} {Q : Option ZV → ZH → Prop} : zT d 96 80 L st h Q = zX (some ((1, 4, 1, 0, []), 82)) d 96 L st h Q := zT_eq rfl
theorem zt_96_82 {d : Nat} {L : ZL} {st : List ZV} {h : ZH} {Q : Option ZV → ZH → Prop} : zT d 96 82 L st h Q = zX (some ((24, 0, 0, 0, []), 83)) d 96 L st h Q := zT_eq rfl
theorem zt_96_83 {d : Nat} {L : ZL} {st : List ZV} {h : ZH} {Q : Option ZV → ZH → Prop} : zT d 96 83 L st h Q = zX (some ((12, 106, 2, 0, []), 86)) d 96 L st h Q := zT_eq rfl
theorem zt_96_86 {d : Nat} {L : ZL} {st : List ZV} {h : ZH} {Q : Option ZV → ZH → Prop} : zT d 96 86 L st h Q = zX (some ((2, 0, 0, 0, []), 87)) d 96 L st h Q := zT_eq rfl
theorem zt_96_87 {d : Nat} {L : ZL} {st : List ZV} {h : ZH} {Q : Option ZV → ZH → Prop} : zT d 96 87 L st h Q = zX (some ((21, 6, 3, 16, [0]), 90)) d 96 L st h Q := zT_eq rfl
theorem zt_96_90 {d : Nat} {L : ZL} {st : List ZV} {h : ZH} {Q : Option ZV → ZH → Prop} : zT d 96 90 L st h Q = zX (some ((1, 3, 0, 0, []), 91)) d 96 L st h Q := zT_eq rfl
theorem zt_96_91 {d : Nat} {L : ZL} {st : List ZV} {h : ZH} {Q : Option ZV → ZH → Prop} : zT d 96 91 L st h Q = zX (some ((24, 0, 0, 0, []), 92)) d 96 L st h Q := zT_eq rfl
theorem zt_96_92 {d : Nat} {L : ZL} {st : List ZV} {h : ZH} {Q : Option ZV → ZH → Prop} : zT d 96 92 L st h Q = zX (some ((0, 0, 0, 4, []), 93)) d 96 L st h Q := zT_eq rfl
theorem zt_96_93 {d : Nat} {L : ZL} {st : List ZV} {h : ZH} {Q : Option ZV → ZH → Prop} : zT d 96 93 L st h Q = zX (some ((11, 108, 1, 0, []), 96)) d 96 L st h Q := zT_eq rfl
theorem zt_96_96 {d : Nat} {L : ZL} {st : List ZV} {h : ZH} {Q : Option ZV → ZH → Prop} : zT d 96 96 L st h Q = zX (some ((2, 0, 0, 0, []), 97)) d 96 L st h Q := zT_eq rfl
theorem zt_96_97 {d : Nat} {L : ZL} {st : List ZV} {h : ZH} {Q : Option ZV → ZH → Prop} : zT d 96 97 L st h Q = zX (some ((21, 6, 23, 68, [0]), 100)) d 96 L st h Q := zT_eq rfl
theorem zt_96_100 {d : Nat} {L : ZL} {st : List ZV} {h : ZH} {Q : Option ZV → ZH → Prop} : zT d 96 100 L st h Q = zX (some ((1, 4, 1, 0, []), 102)) d 96 L st h Q := zT_eq rfl
theorem zt_96_102 {d : Nat} {L : ZL} {st : List ZV} {h : ZH} {Q : Option ZV → ZH → Prop} : zT d 96 102 L st h Q = zX (some ((26, 0, 0, 0, []), 103)) d 96 L st h Q := zT_eq rfl
theorem zt_96_103 {d : Nat} {L : ZL} {st : List ZV} {h : ZH} {Q : Option ZV → ZH → Prop} : zT d 96 103 L st h Q = zX (some ((12, 108, 1, 0, []), 106)) d 96 L st h Q := zT_eq rfl
theorem zt_96_106 {d : Nat} {L : ZL} {st : List ZV} {h : ZH} {Q : Option ZV → ZH → Prop} : zT d 96 106 L st h Q = zX (some ((0, 0, 0, 0, []), 107)) d 96 L st h Q := zT_eq rfl
theorem zt_96_107 {d : Nat} {L : ZL} {st : List ZV} {h : ZH} {Q : Option ZV → ZH → Prop} : zT d 96 107 L st h Q = zX (some ((51, 0, 1, 0, []), 108)) d 96 L st h Q := zT_eq rfl
theorem zt_96_108 {d : Nat} {L : ZL} {st : List ZV} {h : ZH} {Q : Option ZV → ZH → Prop} : zT d 96 108 L st h Q = zX (some ((2, 0, 0, 0, []), 109)) d 96 L st h Q := zT_eq rfl
theorem zt_96_109 {d : Nat} {L : ZL} {st : List ZV} {h : ZH} {Q : Option ZV → ZH → Prop} : zT d 96 109 L st h Q = zX (some ((21, 6, 3, 16, [0]), 112)) d 96 L st h Q := zT_eq rfl
theorem zt_96_112 {d : Nat} {L : ZL} {st : List ZV} {h : ZH} {Q : Option ZV → ZH → Prop} : zT d 96 112 L st h Q = zX (some ((1, 3, 0, 0, []), 113)) d 96 L st h Q := zT_eq rfl
theorem zt_96_113 {d : Nat} {L : ZL} {st : List ZV} {h : ZH} {Q : Option ZV → ZH → Prop} : zT d 96 113 L st h Q = zX (some ((24, 0, 0, 0, []), 114)) d 96 L st h Q := zT_eq rfl
theorem zt_96_114 {d : Nat} {L : ZL} {st : List ZV} {h : ZH} {Q : Option ZV → ZH → Prop} : zT d 96 114 L st h Q = zX (some ((0, 0, 0, 4, []), 115)) d 96 L st h Q := zT_eq rfl
theorem zt_96_115 {d : Nat} {L : ZL} {st : List ZV} {h : ZH} {Q : Option ZV → ZH → Prop} : zT d 96 115 L st h Q = zX (some ((11, 128, 1, 0, []), 118)) d 96 L st h Q := zT_eq rfl
theorem zt_96_118 {d : Nat} {L : ZL} {st : List ZV} {h : ZH} {Q : Option ZV → ZH → Prop} : zT d 96 118 L st h Q = zX (some ((2, 0, 0, 0, []), 119)) d 96 L st h Q := zT_eq rfl
theorem zt_96_119 {d : Nat} {L : ZL} {st : List ZV} {h : ZH} {Q : Option ZV → ZH → Prop} : zT d 96 119 L st h Q = zX (some ((21, 6, 23, 68, [0]), 122)) d 96 L st h Q := zT_eq rfl
theorem zt_96_122 {d : Nat} {L : ZL} {st : List ZV} {h : ZH} {Q : Option ZV → ZH → Prop} : zT d 96 122 L st h Q = zX (some ((1, 4, 1, 0, []), 124)) d 96 L st h Q := zT_eq rfl
theorem zt_96_124 {d : Nat} {L : ZL} {st : List ZV} {h : ZH} {Q : Option ZV → ZH → Prop} : zT d 96 124 L st h Q = zX (some ((0, 0, 0, 0, []), 125)) d 96 L st h Q := zT_eq rfl
theorem zt_96_125 {d : Nat} {L : ZL} {st : List ZV} {h : ZH} {Q : Option ZV → ZH → Prop} : zT d 96 125 L st h Q = zX (some ((27, 0, 0, 0, []), 126)) d 96 L st h Q := zT_eq rfl
theorem zt_96_126 {d : Nat} {L : ZL} {st : List ZV} {h : ZH} {Q : Option ZV → ZH → Prop} : zT d 96 126 L st h Q = zX (some ((0, 0, 0, 1, []), 127)) d 96 L st h Q := zT_eq rfl
theorem zt_96_127 {d : Nat} {L : ZL} {st : List ZV} {h : ZH} {Q : Option ZV → ZH → Prop} : zT d 96 127 L st h Q = zX (some ((51, 0, 1, 0, []), 128)) d 96 L st h Q := zT_eq rfl
theorem zt_96_128 {d : Nat} {L : ZL} {st : List ZV} {h : ZH} {Q : Option ZV → ZH → Prop} : zT d 96 128 L st h Q = zX (some ((2, 0, 0, 0, []), 129)) d 96 L st h Q := zT_eq rfl
theorem zt_96_129 {d : Nat} {L : ZL} {st : List ZV} {h : ZH} {Q : Option ZV → ZH → Prop} : zT d 96 129 L st h Q = zX (some ((21, 6, 18, 59, [0]), 132)) d 96 L st h Q := zT_eq rfl
theorem zt_96_132 {d : Nat} {L : ZL} {st : List ZV} {h : ZH} {Q : Option ZV → ZH → Prop} : zT d 96 132 L st h Q = zX (some ((0, 0, 0, 4, []), 133)) d 96 L st h Q := zT_eq rfl
theorem zt_96_133 {d : Nat} {L : ZL} {st : List ZV} {h : ZH} {Q : Option ZV → ZH → Prop} : zT d 96 133 L st h Q = zX (some ((1, 2, 0, 0, []), 134)) d 96 L st h Q := zT_eq rfl
theorem zt_96_134 {d : Nat} {L : ZL} {st : List ZV} {h : ZH} {Q : Option ZV → ZH → Prop} : zT d 96 134 L st h Q = zX (some ((6, 0, 2, 0, []), 135)) d 96 L st h Q := zT_eq rfl
theorem zt_96_135 {d : Nat} {L : ZL} {st : List ZV} {h : ZH} {Q : Option ZV → ZH → Prop} : zT d 96 135 L st h Q = zX (some ((2, 0, 0, 0, []), 136)) d 96 L st h Q := zT_eq rfl
theorem zt_96_136 {d : Nat} {L : ZL} {st : List ZV} {h : ZH} {Q : Option ZV → ZH → Prop} : zT d 96 136 L st h Q = zX (some ((21, 6, 19, 62, [0]), 139)) d 96 L st h Q := zT_eq rfl
theorem zt_96_139 {d : Nat} {L : ZL} {st : List ZV} {h : ZH} {Q : Option ZV → ZH → Prop} : zT d 96 139 L st h Q = zX (some ((1, 2, 0, 0, []), 140)) d 96 L st h Q := zT_eq rfl
theorem zt_96_140 {d : Nat} {L : ZL} {st : List ZV} {h : ZH} {Q : Option ZV → ZH → Prop} : zT d 96 140 L st h Q = zX (some ((24, 0, 0, 0, []), 141)) d 96 L st h Q := zT_eq rfl
theorem zt_96_141 {d : Nat} {L : ZL} {st : List ZV} {h : ZH} {Q : Option ZV → ZH → Prop} : zT d 96 141 L st h Q = zX (some ((6, 0, 0, 0, []), 142)) d 96 L st h Q := zT_eq rfl
theorem zt_96_142 {d : Nat} {L : ZL} {st : List ZV} {h : ZH} {Q : Option ZV → ZH → Prop} : zT d 96 142 L st h Q = zX (some ((2, 0, 0, 0, []), 143)) d 96 L st h Q := zT_eq rfl
theorem zt_96_143 {d : Nat} {L : ZL} {st : List ZV} {h : ZH} {Q : Option ZV → ZH → Prop} : zT d 96 143 L st h Q = zX (some ((21, 6, 22, 65, [0]), 146)) d 96 L st h Q := zT_eq rfl
theorem zt_96_146 {d : Nat} {L : ZL} {st : List ZV} {h : ZH} {Q : Option ZV → ZH → Prop} : zT d 96 146 L st h Q = zX (some ((1, 4, 1, 0, []), 148)) d 96 L st h Q := zT_eq rfl
theorem zt_96_148 {d : Nat} {L : ZL} {st : List ZV} {h : ZH} {Q : Option ZV → ZH → Prop} : zT d 96 148 L st h Q = zX (some ((24, 0, 0, 0, []), 149)) d 96 L st h Q := zT_eq rfl
theorem zt_96_149 {d : Nat} {L : ZL} {st : List ZV} {h : ZH} {Q : Option ZV → ZH → Prop} : zT d 96 149 L st h Q = zX (some ((25, 0, 0, 0, []), 150)) d 96 L st h Q := zT_eq rfl
theorem zt_96_150 {d : Nat} {L : ZL} {st : List ZV} {h : ZH} {Q : Option ZV → ZH → Prop} : zT d 96 150 L st h Q = zX (some ((2, 0, 0, 0, []), 151)) d 96 L st h Q := zT_eq rfl
theorem zt_96_151 {d : Nat} {L : ZL} {st : List ZV} {h : ZH} {Q : Option ZV → ZH → Prop} : zT d 96 151 L st h Q = zX (some ((21, 6, 19, 62, [0]), 154)) d 96 L st h Q := zT_eq rfl
theorem zt_96_154 {d : Nat} {L : ZL} {st : List ZV} {h : ZH} {Q : Option ZV → ZH → Prop} : zT d 96 154 L st h Q = zX (some ((1, 2, 0, 0, []), 155)) d 96 L st h Q := zT_eq rfl
theorem zt_96_155 {d : Nat} {L : ZL} {st : List ZV} {h : ZH} {Q : Option ZV → ZH → Prop} : zT d 96 155 L st h Q = zX (some ((8, 0, 0, 0, []), 156)) d 96 L st h Q := zT_eq rfl
theorem zt_96_156 {d : Nat} {L : ZL} {st : List ZV} {h : ZH} {Q : Option ZV → ZH → Prop} : zT d 96 156 L st h Q = zX (some ((24, 0, 0, 0, []), 157)) d 96 L st h Q := zT_eq rfl
theorem zt_96_157 {d : Nat} {L : ZL} {st : List ZV} {h : ZH} {Q : Option ZV → ZH → Prop} : zT d 96 157 L st h Q = zX (some ((0, 0, 0, 1, []), 158)) d 96 L st h Q := zT_eq rfl
theorem zt_96_158 {d : Nat} {L : ZL} {st : List ZV} {h : ZH} {Q : Option ZV → ZH → Prop} : zT d 96 158 L st h Q = zX (some ((6, 0, 0, 0, []), 159)) d 96 L st h Q := zT_eq rfl
theorem zt_96_159 {d : Nat} {L : ZL} {st : List ZV} {h : ZH} {Q : Option ZV → ZH → Prop} : zT d 96 159 L st h Q = zX (some ((25, 0, 0, 0, []), 160)) d 96 L st h Q := zT_eq rfl
theorem zt_96_160 {d : Nat} {L : ZL} {st : List ZV} {h : ZH} {Q : Option ZV → ZH → Prop} : zT d 96 160 L st h Q = zX (some ((2, 0, 0, 0, []), 161)) d 96 L st h Q := zT_eq rfl
theorem zt_96_161 {d : Nat} {L : ZL} {st : List ZV} {h : ZH} {Q : Option ZV → ZH → Prop} : zT d 96 161 L st h Q = zX (some ((21, 6, 22, 65, [0]), 164)) d 96 L st h Q := zT_eq rfl
theorem zt_96_164 {d : Nat} {L : ZL} {st : List ZV} {h : ZH} {Q : Option ZV → ZH → Prop} : zT d 96 164 L st h Q = zX (some ((1, 4, 1, 0, []), 166)) d 96 L st h Q := zT_eq rfl
theorem zt_96_166 {d : Nat} {L : ZL} {st : List ZV} {h : ZH} {Q : Option ZV → ZH → Prop} : zT d 96 166 L st h Q = zX (some ((0, 0, 0, -1, []), 167)) d 96 L st h Q := zT_eq rfl
theorem zt_96_167 {d : Nat} {L : ZL} {st : List ZV} {h : ZH} {Q : Option ZV → ZH → Prop} : zT d 96 167 L st h Q = zX (some ((25, 0, 0, 0, []), 168)) d 96 L st h Q := zT_eq rfl
theorem zt_96_168 {d : Nat} {L : ZL} {st : List ZV} {h : ZH} {Q : Option ZV → ZH → Prop} : zT d 96 168 L st h Q = zX (some ((0, 0, 0, 1, []), 169)) d 96 L st h Q := zT_eq rfl
theorem zt_96_169 {d : Nat} {L : ZL} {st : List ZV} {h : ZH} {Q : Option ZV → ZH → Prop} : zT d 96 169 L st h Q = zX (some ((51, 0, 1, 0, []), 170)) d 96 L st h Q := zT_eq rfl
theorem zt_97_0 {d : Nat} {L : ZL} {st : List ZV} {h : ZH} {Q : Option ZV → ZH → Prop} : zT d 97 0 L st h Q = zX (some ((2, 0, 0, 0, []), 1)) d 97 L st h Q := zT_eq rfl
theorem zt_97_1 {d : Nat} {L : ZL} {st : List ZV} {h : ZH} {Q : Option ZV → ZH → Prop} : zT d 97 1 L st h Q = zX (some ((21, 6, 12, 40, [0]), 4)) d 97 L st h Q := zT_eq rfl
theorem zt_97_4 {d : Nat} {L : ZL} {st : List ZV} {h : ZH} {Q : Option ZV → ZH → Prop} : zT d 97 4 L st h Q = zX (some ((1, 2, 0, 0, []), 5)) d 97 L st h Q := zT_eq rfl
theorem zt_97_5 {d : Nat} {L : ZL} {st : List ZV} {h : ZH} {Q : Option ZV → ZH → Prop} : zT d 97 5 L st h Q = zX (some ((24, 0, 0, 0, []), 6)) d 97 L st h Q := zT_eq rfl
theorem zt_97_6 {d : Nat} {L : ZL} {st : List ZV} {h : ZH} {Q : Option ZV → ZH → Prop} : zT d 97 6 L st h Q = zX (some ((0, 0, 1, 11, []), 8)) d 97 L st h Q := zT_eq rfl
theorem zt_97_8 {d : Nat} {L : ZL} {st : List ZV} {h : ZH} {Q : Option ZV → ZH → Prop} : zT d 97 8 L st h Q = zX (some ((11, 99, 1, 0, []), 11)) d 97 L st h Q := zT_eq rfl
theorem zt_97_11 {d : Nat} {L : ZL} {st : List ZV} {h : ZH} {Q : Option ZV → ZH → Prop} : zT d 97 11 L st h Q = zX (some ((2, 0, 0, 0, []), 12)) d 97 L st h Q := zT_eq rfl
theorem zt_97_12 {d : Nat} {L : ZL} {st : List ZV} {h : ZH} {Q : Option ZV → ZH → Prop} : zT d 97 12 L st h Q = zX (some ((21, 6, 14, 46, [0]), 15)) d 97 L st h Q := zT_eq rfl
theorem zt_97_15 {d : Nat} {L : ZL} {st : List ZV} {h : ZH} {Q : Option ZV → ZH → Prop} : zT d 97 15 L st h Q = zX (some ((1, 2, 0, 0, []), 16)) d 97 L st h Q := zT_eq rfl
theorem zt_97_16 {d : Nat} {L : ZL} {st : List ZV} {h : ZH} {Q : Option ZV → ZH → Prop} : zT d 97 16 L st h Q = zX (some ((24, 0, 0, 0, []), 17)) d 97 L st h Q := zT_eq rfl
theorem zt_97_17 {d : Nat} {L : ZL} {st : List ZV} {h : ZH} {Q : Option ZV → ZH → Prop} : zT d 97 17 L st h Q = zX (some ((1, 1, 0, 0, []), 18)) d 97 L st h Q := zT_eq rfl
theorem zt_97_18 {d : Nat} {L : ZL} {st : List ZV} {h : ZH} {Q : Option ZV → ZH → Prop} : zT d 97 18 L st h Q = zX (some ((11, 30, 1, 0, []), 21)) d 97 L st h Q := zT_eq rfl
theorem zt_97_21 {d : Nat} {L : ZL} {st : List ZV} {h : ZH} {Q : Option ZV → ZH → Prop} : zT d 97 21 L st h Q = zX (some ((2, 0, 0, 0, []), 22)) d 97 L st h Q := zT_eq rfl
theorem zt_97_22 {d : Nat} {L : ZL} {st : List ZV} {h : ZH} {Q : Option ZV → ZH → Prop} : zT d 97 22 L st h Q = zX (some ((1, 1, 0, 0, []), 23)) d 97 L st h Q := zT_eq rfl
theorem zt_97_23 {d : Nat} {L : ZL} {st : List ZV} {h : ZH} {Q : Option ZV → ZH → Prop} : zT d 97 23 L st h Q = zX (some ((1, 2, 0, 0, []), 24)) d 97 L st h Q := zT_eq rfl
theorem zt_97_24 {d : Nat} {L : ZL} {st : List ZV} {h : ZH} {Q : Option ZV → ZH → Prop} : zT d 97 24 L st h Q = zX (some ((40, 87, 3, 139, [1, 6]), 27)) d 97 L st h Q := zT_eq rfl
theorem zt_97_27 {d : Nat} {L : ZL} {st : List ZV} {h : ZH} {Q : Option ZV → ZH → Prop} : zT d 97 27 L st h Q = zX (some ((13, 64, 0, 0, []), 30)) d 97 L st h Q := zT_eq rfl
theorem zt_97_30 {d : Nat} {L : ZL} {st : List ZV} {h : ZH} {Q : Option ZV → ZH → Prop} : zT d 97 30 L st h Q = zX (some ((2, 0, 0, 0, []), 31)) d 97 L st h Q := zT_eq rfl
theorem zt_97_31 {d : Nat} {L : ZL} {st : List ZV} {h : ZH} {Q : Option ZV → ZH → Prop} : zT d 97 31 L st h Q = zX (some ((21, 6, 31, 92, [0]), 34)) d 97 L st h Q := zT_eq rfl
theorem zt_97_34 {d : Nat} {L : ZL} {st : List ZV} {h : ZH} {Q : Option ZV → ZH → Prop} : zT d 97 34 L st h Q = zX (some ((2, 0, 0, 0, []), 35)) d 97 L st h Q := zT_eq rfl
theorem zt_97_35 {d : Nat} {L : ZL} {st : List ZV} {h : ZH} {Q : Option ZV → ZH → Prop} : zT d 97 35 L st h Q = zX (some ((21, 6, 14, 46, [0]), 38)) d 97 L st h Q := zT_eq rfl
theorem zt_97_38 {d : Nat} {L : ZL} {st : List ZV} {h : ZH} {Q : Option ZV → ZH → Prop} : zT d 97 38 L st h Q = zX (some ((1, 2, 0, 0, []), 39)) d 97 L st h Q := zT_eq rfl
theorem zt_97_39 {d : Nat} {L : ZL} {st : List ZV} {h : ZH} {Q : Option ZV → ZH → Prop} : zT d 97 39 L st h Q = zX (some ((24, 0, 0, 0, []), 40)) d 97 L st h Q := zT_eq rfl
theorem zt_97_40 {d : Nat} {L : ZL} {st : List ZV} {h : ZH} {Q : Option ZV → ZH → Prop} : zT d 97 40 L st h Q = zX (some ((0, 0, 0, 1, []), 41)) d 97 L st h Q := zT_eq rfl
theorem zt_97_41 {d : Nat} {L : ZL} {st : List ZV} {h : ZH} {Q : Option ZV → ZH → Prop} : zT d 97 41 L st h Q = zX (some ((27, 0, 0, 0, []), 42)) d 97 L st h Q := zT_eq rfl
theorem zt_97_42 {d : Nat} {L : ZL} {st : List ZV} {h : ZH} {Q : Option ZV → ZH → Prop} : zT d 97 42 L st h Q = zX (some ((2, 0, 0, 0, []), 43)) d 97 L st h Q := zT_eq rfl
theorem zt_97_43 {d : Nat} {L : ZL} {st : List ZV} {h : ZH} {Q : Option ZV → ZH → Prop} : zT d 97 43 L st h Q = zX (some ((21, 6, 32, 95, [0]), 46)) d 97 L st h Q := zT_eq rfl
theorem zt_97_46 {d : Nat} {L : ZL} {st : List ZV} {h : ZH} {Q : Option ZV → ZH → Prop} : zT d 97 46 L st h Q = zX (some ((2, 0, 0, 0, []), 47)) d 97 L st h Q := zT_eq rfl
theorem zt_97_47 {d : Nat} {L : ZL} {st : List ZV} {h : ZH} {Q : Option ZV → ZH → Prop} : zT d 97 47 L st h Q = zX (some ((21, 6, 14, 46, [0]), 50)) d 97 L st h Q := zT_eq rfl
theorem zt_97_50 {d : Nat} {L : ZL} {st : List ZV} {h : ZH} {Q : Option ZV → ZH → Prop} : zT d 97 50 L st h Q = zX (some ((1, 2, 0, 0, []), 51)) d 97 L st h Q := zT_eq rfl
theorem zt_97_51 {d : Nat} {L : ZL} {st : List ZV} {h : ZH} {Q : Option ZV → ZH → Prop} : zT d 97 51 L st h Q = zX (some ((24, 0, 0, 0, []), 52)) d 97 L st h Q := zT_eq rfl
theorem zt_97_52 {d : Nat} {L : ZL} {st : List ZV} {h : ZH} {Q : Option ZV → ZH → Prop} : zT d 97 52 L st h Q = zX (some ((1, 2, 0, 0, []), 53)) d 97 L st h Q := zT_eq rfl
theorem zt_97_53 {d : Nat} {L : ZL} {st : List ZV} {h : ZH} {Q : Option ZV → ZH → Prop} : zT d 97 53 L st h Q = zX (some ((25, 0, 0, 0, []), 54)) d 97 L st h Q := zT_eq rfl
theorem zt_97_54 {d : Nat} {L : ZL} {st : List ZV} {h : ZH} {Q : Option ZV → ZH → Prop} : zT d 97 54 L st h Q = zX (some ((2, 0, 0, 0, []), 55)) d 97 L st h Q := zT_eq rfl
theorem zt_97_55 {d : Nat} {L : ZL} {st : List ZV} {h : ZH} {Q : Option ZV → ZH → Prop} : zT d 97 55 L st h Q = zX (some ((21, 6, 15, 49, [0]), 58)) d 97 L st h Q := zT_eq rfl
theorem zt_97_58 {d : Nat} {L : ZL} {st : List ZV} {h : ZH} {Q : Option ZV → ZH → Prop} : zT d 97 58 L st h Q = zX (some ((1, 2, 0, 0, []), 59)) d 97 L st h Q := zT_eq rfl
theorem zt_97_59 {d : Nat} {L : ZL} {st : List ZV} {h : ZH} {Q : Option ZV → ZH → Prop} : zT d 97 59 L st h Q = zX (some ((8, 0, 0, 0, []), 60)) d 97 L st h Q := zT_eq rfl
theorem zt_97_60 {d : Nat} {L : ZL} {st : List ZV} {h : ZH} {Q : Option ZV → ZH → Prop} : zT d 97 60 L st h Q = zX (some ((24, 0, 0, 0, []), 61)) d 97 L st h Q := zT_eq rfl
theorem zt_97_61 {d : Nat} {L : ZL} {st : List ZV} {h : ZH} {Q : Option ZV → ZH → Prop} : zT d 97 61 L st h Q = zX (some ((0, 0, 0, 1, []), 62)) d 97 L st h Q := zT_eq rfl
theorem zt_97_62 {d : Nat} {L : ZL} {st : List ZV} {h : ZH} {Q : Option ZV → ZH → Prop} : zT d 97 62 L st h Q = zX (some ((6, 0, 0, 0, []), 63)) d 97 L st h Q := zT_eq rfl
theorem zt_97_63 {d : Nat} {L : ZL} {st : List ZV} {h : ZH} {Q : Option ZV → ZH → Prop} : zT d 97 63 L st h Q = zX (some ((25, 0, 0, 0, []), 64)) d 97 L st h Q := zT_eq rfl
theorem zt_97_64 {d : Nat} {L : ZL} {st : List ZV} {h : ZH} {Q : Option ZV → ZH → Prop} : zT d 97 64 L st h Q = zX (some ((2, 0, 0, 0, []), 65)) d 97 L st h Q := zT_eq rfl
theorem zt_97_65 {d : Nat} {L : ZL} {st : List ZV} {h : ZH} {Q : Option ZV → ZH → Prop} : zT d 97 65 L st h Q = zX (some ((21, 6, 14, 46, [0]), 68)) d 97 L st h Q := zT_eq rfl
theorem zt_97_68 {d : Nat} {L : ZL} {st : List ZV} {h : ZH} {Q : Option ZV → ZH → Prop} : zT d 97 68 L st h Q = zX (some ((1, 2, 0, 0, []), 69)) d 97 L st h Q := zT_eq rfl
theorem zt_97_69 {d : Nat} {L : ZL} {st : List ZV} {h : ZH} {Q : Option ZV → ZH → Prop} : zT d 97 69 L st h Q = zX (some ((8, 0, 0, 0, []), 70)) d 97 L st h Q := zT_eq rfl
theorem zt_97_70 {d : Nat} {L : ZL} {st : List ZV} {h : ZH} {Q : Option ZV → ZH → Prop} : zT d 97 70 L st h Q = zX (some ((24, 0, 0, 0, []), 71)) d 97 L st h Q := zT_eq rfl
theorem zt_97_71 {d : Nat} {L : ZL} {st : List ZV} {h : ZH} {Q : Option ZV → ZH → Prop} : zT d 97 71 L st h Q = zX (some ((0, 0, 0, 1, []), 72)) d 97 L st h Q := zT_eq rfl
theorem zt_97_72 {d : Nat} {L : ZL} {st : List ZV} {h : ZH} {Q : Option ZV → ZH → Prop} : zT d 97 72 L st h Q = zX (some ((6, 0, 0, 0, []), 73)) d 97 L st h Q := zT_eq rfl
theorem zt_97_73 {d : Nat} {L : ZL} {st : List ZV} {h : ZH} {Q : Option ZV → ZH → Prop} : zT d 97 73 L st h Q = zX (some ((25, 0, 0, 0, []), 74)) d 97 L st h Q := zT_eq rfl
theorem zt_97_74 {d : Nat} {L : ZL} {st : List ZV} {h : ZH} {Q : Option ZV → ZH → Prop} : zT d 97 74 L st h Q = zX (some ((2, 0, 0, 0, []), 75)) d 97 L st h Q := zT_eq rfl
theorem zt_97_75 {d : Nat} {L : ZL} {st : List ZV} {h : ZH} {Q : Option ZV → ZH → Prop} : zT d 97 75 L st h Q = zX (some ((21, 6, 12, 40, [0]), 78)) d 97 L st h Q := zT_eq rfl
theorem zt_97_78 {d : Nat} {L : ZL} {st : List ZV} {h : ZH} {Q : Option ZV → ZH → Prop} : zT d 97 78 L st h Q = zX (some ((1, 2, 0, 0, []), 79)) d 97 L st h Q := zT_eq rfl
theorem zt_97_79 {d : Nat} {L : ZL} {st : List ZV} {h : ZH} {Q : Option ZV → ZH → Prop} : zT d 97 79 L st h Q = zX (some ((2, 0, 0, 0, []), 80)) d 97 L st h Q := zT_eq rfl
theorem zt_97_80 {d : Nat} {L : ZL} {st : List ZV} {h : ZH} {Q : Option ZV → ZH → Prop} : zT d 97 80 L st h Q = zX (some ((21, 6, 14, 46, [0]), 83)) d 97 L st h Q := zT_eq rfl
theorem zt_97_83 {d : Nat} {L : ZL} {st : List ZV} {h : ZH} {Q : Option ZV → ZH → Prop} : zT d 97 83 L st h Q = zX (some ((1, 2, 0, 0, []), 84)) d 97 L st h Q := zT_eq rfl
theorem zt_97_84 {d : Nat} {L : ZL} {st : List ZV} {h : ZH} {Q : Option ZV → ZH → Prop} : zT d 97 84 L st h Q = zX (some ((24, 0, 0, 0, []), 85)) d 97 L st h Q := zT_eq rfl
theorem zt_97_85 {d : Nat} {L : ZL} {st : List ZV} {h : ZH} {Q : Option ZV → ZH → Prop} : zT d 97 85 L st h Q = zX (some ((0, 0, 0, 4, []), 86)) d 97 L st h Q := zT_eq rfl
theorem zt_97_86 {d : Nat} {L : ZL} {st : List ZV} {h : ZH} {Q : Option ZV → ZH → Prop} : zT d 97 86 L st h Q = zX (some ((11, 94, 1, 0, []), 89)) d 97 L st h Q := zT_eq rfl
theorem zt_97_89 {d : Nat} {L : ZL} {st : List ZV} {h : ZH} {Q : Option ZV → ZH → Prop} : zT d 97 89 L st h Q = zX (some ((0, 0, 1, 12, []), 91)) d 97 L st h Q := zT_eq rfl
theorem zt_97_91 {d : Nat} {L : ZL} {st : List ZV} {h : ZH} {Q : Option ZV → ZH → Prop} : zT d 97 91 L st h Q = zX (some ((13, 96, 0, 0, []), 94)) d 97 L st h Q := zT_eq rfl
theorem zt_97_94 {d : Nat} {L : ZL} {st : List ZV} {h : ZH} {Q : Option ZV → ZH → Prop} : zT d 97 94 L st h Q = zX (some ((0, 0, 1, 11, []), 96)) d 97 L st h Q := zT_eq rfl
theorem zt_97_96 {d : Nat} {L : ZL} {st : List ZV} {h : ZH} {Q : Option ZV → ZH → Prop} : zT d 97 96 L st h Q = zX (some ((25, 0, 0, 0, []), 97)) d 97 L st h Q := zT_eq rfl
theorem zt_97_97 {d : Nat} {L : ZL} {st : List ZV} {h : ZH} {Q : Option ZV → ZH → Prop} : zT d 97 97 L st h Q = zX (some ((0, 0, 0, 0, []), 98)) d 97 L st h Q := zT_eq rfl
theorem zt_97_98 {d : Nat} {L : ZL} {st : List ZV} {h : ZH} {Q : Option ZV → ZH → Prop} : zT d 97 98 L st h Q = zX (some ((51, 0, 1, 0, []), 99)) d 97 L st h Q := zT_eq rfl
theorem zt_97_99 {d : Nat} {L : ZL} {st : List ZV} {h : ZH} {Q : Option ZV → ZH → Prop} : zT d 97 99 L st h Q = zX (some ((2, 0, 0, 0, []), 100)) d 97 L st h Q := zT_eq rfl
theorem zt_97_100 {d : Nat} {L : ZL} {st : List ZV} {h : ZH} {Q : Option ZV → ZH → Prop} : zT d 97 100 L st h Q = zX (some ((21, 6, 12, 40, [0]), 103)) d 97 L st h Q := zT_eq rfl
theorem zt_97_103 {d : Nat} {L : ZL} {st : List ZV} {h : ZH} {Q : Option ZV → ZH → Prop} : zT d 97 103 L st h Q = zX (some ((1, 2, 0, 0, []), 104)) d 97 L st h Q := zT_eq rfl
theorem zt_97_104 {d : Nat} {L : ZL} {st : List ZV} {h : ZH} {Q : Option ZV → ZH → Prop} : zT d 97 104 L st h Q = zX (some ((24, 0, 0, 0, []), 105)) d 97 L st h Q := zT_eq rfl
theorem zt_97_105 {d : Nat} {L : ZL} {st : List ZV} {h : ZH} {Q : Option ZV → ZH → Prop} : zT d 97 105 L st h Q = zX (some ((0, 0, 1, 12, []), 107)) d 97 L st h Q := zT_eq rfl
theorem zt_97_107 {d : Nat} {L : ZL} {st : List ZV} {h : ZH} {Q : Option ZV → ZH → Prop} : zT d 97 107 L st h Q = zX (some ((11, 151, 1, 0, []), 110)) d 97 L st h Q := zT_eq rfl
theorem zt_97_110 {d : Nat} {L : ZL} {st : List ZV} {h : ZH} {Q : Option ZV → ZH → Prop} : zT d 97 110 L st h Q = zX (some ((2, 0, 0, 0, []), 111)) d 97 L st h Q := zT_eq rfl
theorem zt_97_111 {d : Nat} {L : ZL} {st : List ZV} {h : ZH} {Q : Option ZV → ZH → Prop} : zT d 97 111 L st h Q = zX (some ((21, 6, 14, 46, [0]), 114)) d 97 L st h Q := zT_eq rfl
theorem zt_97_114 {d : Nat} {L : ZL} {st : List ZV} {h : ZH} {Q : Option ZV → ZH → Prop} : zT d 97 114 L st h Q = zX (some ((1, 2, 0, 0, []), 115)) d 97 L st h Q := zT_eq rfl
theorem zt_97_115 {d : Nat} {L : ZL} {st : List ZV} {h : ZH} {Q : Option ZV → ZH → Prop} : zT d 97 115 L st h Q = zX (some ((0, 0, 0, 0, []), 116)) d 97 L st h Q := zT_eq rfl
theorem zt_97_116 {d : Nat} {L : ZL} {st : List ZV} {h : ZH} {Q : Option ZV → ZH → Prop} : zT d 97 116 L st h Q = zX (some ((25, 0, 0, 0, []), 117)) d 97 L st h Q := zT_eq rfl
theorem zt_97_117 {d : Nat} {L : ZL} {st : List ZV} {h : ZH} {Q : Option ZV → ZH → Prop} : zT d 97 117 L st h Q = zX (some ((2, 0, 0, 0, []), 118)) d 97 L st h Q := zT_eq rfl
theorem zt_97_118 {d : Nat} {L : ZL} {st : List ZV} {h : ZH} {Q : Option ZV → ZH → Prop} : zT d 97 118 L st h Q = zX (some ((21, 6, 15, 49, [0]), 121)) d 97 L st h Q := zT_eq rfl
theorem zt_97_121 {d : Nat} {L : ZL} {st : List ZV} {h : ZH} {Q : Option ZV → ZH → Prop} : zT d 97 121 L st h Q = zX (some ((1, 2, 0, 0, []), 122)) d 97 L st h Q := zT_eq rfl
theorem zt_97_122 {d : Nat} {L : ZL} {st : List ZV} {h : ZH} {Q : Option ZV → ZH → Prop} : zT d 97 122 L st h Q = zX (some ((24, 0, 0, 0, []), 123)) d 97 L st h Q := zT_eq rfl
theorem zt_97_123 {d : Nat} {L : ZL} {st : List ZV} {h : ZH} {Q : Option ZV → ZH → Prop} : zT d 97 123 L st h Q = zX (some ((12, 149, 1, 0, []), 126)) d 97 L st h Q := zT_eq rfl
theorem zt_97_126 {d : Nat} {L : ZL} {st : List ZV} {h : ZH} {Q : Option ZV → ZH → Prop} : zT d 97 126 L st h Q = zX (some ((2, 0, 0, 0, []), 127)) d 97 L st h Q := zT_eq rfl
theorem zt_97_127 {d : Nat} {L : ZL} {st : List ZV} {h : ZH} {Q : Option ZV → ZH → Prop} : zT d 97 127 L st h Q = zX (some ((21, 6, 12, 40, [0]), 130)) d 97 L st h Q := zT_eq rfl
theorem zt_97_130 {d : Nat} {L : ZL} {st : List ZV} {h : ZH} {Q : Option ZV → ZH → Prop} : zT d 97 130 L st h Q = zX (some ((1, 2, 0, 0, []), 131)) d 97 L st h Q := zT_eq rfl
theorem zt_97_131 {d : Nat} {L : ZL} {st : List ZV} {h : ZH} {Q : Option ZV → ZH → Prop} : zT d 97 131 L st h Q = zX (some ((2, 0, 0, 0, []), 132)) d 97 L st h Q := zT_eq rfl
theorem zt_97_132 {d : Nat} {L : ZL} {st : List ZV} {h : ZH} {Q : Option ZV → ZH → Prop} : zT d 97 132 L st h Q = zX (some ((21, 6, 3, 16, [0]), 135)) d 97 L st h Q := zT_eq rfl
theorem zt_97_135 {d : Nat} {L : ZL} {st : List ZV} {h : ZH} {Q : Option ZV → ZH → Prop} : zT d 97 135 L st h Q = zX (some ((1, 3, 0, 0, []), 136)) d 97 L st h Q := zT_eq rfl
theorem zt_97_136 {d : Nat} {L : ZL} {st : List ZV} {h : ZH} {Q : Option ZV → ZH → Prop} : zT d 97 136 L st h Q = zX (some ((24, 0, 0, 0, []), 137)) d 97 L st h Q := zT_eq rfl
theorem zt_97_137 {d : Nat} {L : ZL} {st : List ZV} {h : ZH} {Q : Option ZV → ZH → Prop} : zT d 97 137 L st h Q = zX (some ((0, 0, 0, 3, []), 138)) d 97 L st h Q := zT_eq rfl
theorem zt_97_138 {d : Nat} {L : ZL} {st : List ZV} {h : ZH} {Q : Option ZV → ZH → Prop} : zT d 97 138 L st h Q = zX (some ((11, 146, 1, 0, []), 141)) d 97 L st h Q := zT_eq rfl
theorem zt_97_141 {d : Nat} {L : ZL} {st : List ZV} {h : ZH} {Q : Option ZV → ZH → Prop} : zT d 97 141 L st h Q = zX (some ((0, 0, 1, 13, []), 143)) d 97 L st h Q := zT_eq rfl
theorem zt_97_143 {d : Nat} {L : ZL} {st : List ZV} {h : ZH} {Q : Option ZV → ZH → Prop} : zT d 97 143 L st h Q = zX (some ((13, 148, 0, 0, []), 146)) d 97 L st h Q := zT_eq rfl
theorem zt_97_146 {d : Nat} {L : ZL} {st : List ZV} {h : ZH} {Q : Option ZV → ZH → Prop} : zT d 97 146 L st h Q = zX (some ((0, 0, 1, 14, []), 148)) d 97 L st h Q := zT_eq rfl
theorem zt_97_148 {d : Nat} {L : ZL} {st : List ZV} {h : ZH} {Q : Option ZV → ZH → Prop} : zT d 97 148 L st h Q = zX (some ((25, 0, 0, 0, []), 149)) d 97 L st h Q := zT_eq rfl
theorem zt_97_149 {d : Nat} {L : ZL} {st : List ZV} {h : ZH} {Q : Option ZV → ZH → Prop} : zT d 97 149 L st h Q = zX (some ((0, 0, 0, 0, []), 150)) d 97 L st h Q := zT_eq rfl
theorem zt_97_150 {d : Nat} {L : ZL} {st : List ZV} {h : ZH} {Q : Option ZV → ZH → Prop} : zT d 97 150 L st h Q = zX (some ((51, 0, 1, 0, []), 151)) d 97 L st h Q := zT_eq rfl
theorem zt_97_151 {d : Nat} {L : ZL} {st : List ZV} {h : ZH} {Q : Option ZV → ZH → Prop} : zT d 97 151 L st h Q = zX (some ((2, 0, 0, 0, []), 152)) d 97 L st h Q := zT_eq rfl
theorem zt_97_152 {d : Nat} {L : ZL} {st : List ZV} {h : ZH} {Q : Option ZV → ZH → Prop} : zT d 97 152 L st h Q = zX (some ((21, 6, 12, 40, [0]), 155)) d 97 L st h Q := zT_eq rfl
theorem zt_97_155 {d : Nat} {L : ZL} {st : List ZV} {h : ZH} {Q : Option ZV → ZH → Prop} : zT d 97 155 L st h Q = zX (some ((1, 2, 0, 0, []), 156)) d 97 L st h Q := zT_eq rfl
theorem zt_97_156 {d : Nat} {L : ZL} {st : List ZV} {h : ZH} {Q : Option ZV → ZH → Prop} : zT d 97 156 L st h Q = zX (some ((24, 0, 0, 0, []), 157)) d 97 L st h Q := zT_eq rfl
theorem zt_97_157 {d : Nat} {L : ZL} {st : List ZV} {h : ZH} {Q : Option ZV → ZH → Prop} : zT d 97 157 L st h Q = zX (some ((0, 0, 1, 13, []), 159)) d 97 L st h Q := zT_eq rfl
theorem zt_97_159 {d : Nat} {L : ZL} {st : List ZV} {h : ZH} {Q : Option ZV → ZH → Prop} : zT d 97 159 L st h Q = zX (some ((11, 251, 1, 0, []), 162)) d 97 L st h Q := zT_eq rfl
theorem zt_97_162 {d : Nat} {L : ZL} {st : List ZV} {h : ZH} {Q : Option ZV → ZH → Prop} : zT d 97 162 L st h Q = zX (some ((2, 0, 0, 0, []), 163)) d 97 L st h Q := zT_eq rfl
theorem zt_97_163 {d : Nat} {L : ZL} {st : List ZV} {h : ZH} {Q : Option ZV → ZH → Prop} : zT d 97 163 L st h Q = zX (some ((21, 6, 18, 59, [0]), 166)) d 97 L st h Q := zT_eq rfl
theorem zt_97_166 {d : Nat} {L : ZL} {st : List ZV} {h : ZH} {Q : Option ZV → ZH → Prop} : zT d 97 166 L st h Q = zX (some ((0, 0, 0, 4, []), 167)) d 97 L st h Q := zT_eq rfl
theorem zt_97_167 {d : Nat} {L : ZL} {st : List ZV} {h : ZH} {Q : Option ZV → ZH → Prop} : zT d 97 167 L st h Q = zX (some ((1, 2, 0, 0, []), 168)) d 97 L st h Q := zT_eq rfl
theorem zt_97_168 {d : Nat} {L : ZL} {st : List ZV} {h : ZH} {Q : Option ZV → ZH → Prop} : zT d 97 168 L st h Q = zX (some ((6, 0, 2, 0, []), 169)) d 97 L st h Q := zT_eq rfl
theorem zt_97_169 {d : Nat} {L : ZL} {st : List ZV} {h : ZH} {Q : Option ZV → ZH → Prop} : zT d 97 169 L st h Q = zX (some ((2, 0, 0, 0, []), 170)) d 97 L st h Q := zT_eq rfl
theorem zt_97_170 {d : Nat} {L : ZL} {st : List ZV} {h : ZH} {Q : Option ZV → ZH → Prop} : zT d 97 170 L st h Q = zX (some ((21, 6, 14, 46, [0]), 173)) d 97 L st h Q := zT_eq rfl
theorem zt_97_173 {d : Nat} {L : ZL} {st : List ZV} {h : ZH} {Q : Option ZV → ZH → Prop} : zT d 97 173 L st h Q = zX (some ((1, 2, 0, 0, []), 174)) d 97 L st h Q := zT_eq rfl
theorem zt_97_174 {d : Nat} {L : ZL} {st : List ZV} {h : ZH} {Q : Option ZV → ZH → Prop} : zT d 97 174 L st h Q = zX (some ((24, 0, 0, 0, []), 175)) d 97 L st h Q := zT_eq rfl
theorem zt_97_175 {d : Nat} {L : ZL} {st : List ZV} {h : ZH} {Q : Option ZV → ZH → Prop} : zT d 97 175 L st h Q = zX (some ((6, 0, 0, 0, []), 176)) d 97 L st h Q := zT_eq rfl
theorem zt_97_176 {d : Nat} {L : ZL} {st : List ZV} {h : ZH} {Q : Option ZV → ZH → Prop} : zT d 97 176 L st h Q = zX (some ((24, 0, 0, 0, []), 177)) d 97 L st h Q := zT_eq rfl
theorem zt_97_177 {d : Nat} {L : ZL} {st : List ZV} {h : ZH} {Q : Option ZV → ZH → Prop} : zT d 97 177 L st h Q = zX (some ((3, 4, 1, 0, []), 179)) d 97 L st h Q := zT_eq rfl
theorem zt_97_179 {d : Nat} {L : ZL} {st : List ZV} {h : ZH} {Q : Option ZV → ZH → Prop} : zT d 97 179 L st h Q = zX (some ((2, 0, 0, 0, []), 180)) d 97 L st h Q := zT_eq rfl
theorem zt_97_180 {d : Nat} {L : ZL} {st : List ZV} {h : ZH} {Q : Option ZV → ZH → Prop} : zT d 97 180 L st h Q = zX (some ((21, 6, 29, 86, [0]), 183)) d 97 L st h Q := zT_eq rfl
theorem zt_97_183 {d : Nat} {L : ZL} {st : List ZV} {h : ZH} {Q : Option ZV → ZH → Prop} : zT d 97 183 L st h Q = zX (some ((1, 4, 1, 0, []), 185)) d 97 L st h Q := zT_eq rfl
theorem zt_97_185 {d : Nat} {L : ZL} {st : List ZV} {h : ZH} {Q : Option ZV → ZH → Prop} : zT d 97 185 L st h Q = zX (some ((2, 0, 0, 0, []), 186)) d 97 L st h Q := zT_eq rfl
theorem zt_97_186 {d : Nat} {L : ZL} {st : List ZV} {h : ZH} {Q : Option ZV → ZH → Prop} : zT d 97 186 L st h Q = zX (some ((1, 1, 0, 0, []), 187)) d 97 L st h Q := zT_eq rfl
theorem zt_97_187 {d : Nat} {L : ZL} {st : List ZV} {h : ZH} {Q : Option ZV → ZH → Prop} : zT d 97 187 L st h Q = zX (some ((40, 92, 2, 186, [1, 6]), 190)) d 97 L st h Q := zT_eq rfl
theorem zt_97_190 {d : Nat} {L : ZL} {st : List ZV} {h : ZH} {Q : Option ZV → ZH → Prop} : zT d 97 190 L st h Q = zX (some ((0, 0, 0, 2, []), 191)) d 97 L st h Q := zT_eq rfl
theorem zt_97_191 {d : Nat} {L : ZL} {st : List ZV} {h : ZH} {Q : Option ZV → ZH → Prop} : zT d 97 191 L st h Q = zX (some ((11, 198, 3, 0, []), 194)) d 97 L st h Q := zT_eq rfl
theorem zt_97_194 {d : Nat} {L : ZL} {st : List ZV} {h : ZH} {Q : Option ZV → ZH → Prop} : zT d 97 194 L st h Q = zX (some ((1, 1, 0, 0, []), 195)) d 97 L st h Q := zT_eq rfl
theorem zt_97_195 {d : Nat} {L : ZL} {st : List ZV} {h : ZH} {Q : Option ZV → ZH → Prop} : zT d 97 195 L st h Q = zX (some ((13, 199, 0, 0, []), 198)) d 97 L st h Q := zT_eq rfl
theorem zt_97_198 {d : Nat} {L : ZL} {st : List ZV} {h : ZH} {Q : Option ZV → ZH → Prop} : zT d 97 198 L st h Q = zX (some ((0, 0, 0, 4, []), 199)) d 97 L st h Q := zT_eq rfl
theorem zt_97_199 {d : Nat} {L : ZL} {st : List ZV} {h : ZH} {Q : Option ZV → ZH → Prop} : zT d 97 199 L st h Q = zX (some ((25, 0, 0, 0, []), 200)) d 97 L st h Q := zT_eq rfl
theorem zt_97_200 {d : Nat} {L : ZL} {st : List ZV} {h : ZH} {Q : Option ZV → ZH → Prop} : zT d 97 200 L st h Q = zX (some ((2, 0, 0, 0, []), 201)) d 97 L st h Q := zT_eq rfl
theorem zt_97_201 {d : Nat} {L : ZL} {st : List ZV} {h : ZH} {Q : Option ZV → ZH → Prop} : zT d 97 201 L st h Q = zX (some ((21, 6, 30, 89, [0]), 204)) d 97 L st h Q := zT_eq rfl
theorem zt_97_204 {d : Nat} {L : ZL} {st : List ZV} {h : ZH} {Q : Option ZV → ZH → Prop} : zT d 97 204 L st h Q = zX (some ((1, 4, 1, 0, []), 206)) d 97 L st h Q := zT_eq rfl
theorem zt_97_206 {d : Nat} {L : ZL} {st : List ZV} {h : ZH} {Q : Option ZV → ZH → Prop} : zT d 97 206 L st h Q = zX (some ((2, 0, 0, 0, []), 207)) d 97 L st h Q := zT_eq rfl
theorem zt_97_207 {d : Nat} {L : ZL} {st : List ZV} {h : ZH} {Q : Option ZV → ZH → Prop} : zT d 97 207 L st h Q = zX (some ((40, 66, 1, 109, [1, 6]), 210)) d 97 L st h Q := zT_eq rfl
theorem zt_97_210 {d : Nat} {L : ZL} {st : List ZV} {h : ZH} {Q : Option ZV → ZH → Prop} : zT d 97 210 L st h Q = zX (some ((25, 0, 0, 0, []), 211)) d 97 L st h Q := zT_eq rfl
theorem zt_97_211 {d : Nat} {L : ZL} {st : List ZV} {h : ZH} {Q : Option ZV → ZH → Prop} : zT d 97 211 L st h Q = zX (some ((2, 0, 0, 0, []), 212)) d 97 L st h Q := zT_eq rfl
theorem zt_97_212 {d : Nat} {L : ZL} {st : List ZV} {h : ZH} {Q : Option ZV → ZH → Prop} : zT d 97 212 L st h Q = zX (some ((21, 6, 14, 46, [0]), 215)) d 97 L st h Q := zT_eq rfl
theorem zt_97_215 {d : Nat} {L : ZL} {st : List ZV} {h : ZH} {Q : Option ZV → ZH → Prop} : zT d 97 215 L st h Q = zX (some ((1, 2, 0, 0, []), 216)) d 97 L st h Q := zT_eq rfl
theorem zt_97_216 {d : Nat} {L : ZL} {st : List ZV} {h : ZH} {Q : Option ZV → ZH → Prop} : zT d 97 216 L st h Q = zX (some ((8, 0, 0, 0, []), 217)) d 97 L st h Q := zT_eq rfl
theorem zt_97_217 {d : Nat} {L : ZL} {st : List ZV} {h : ZH} {Q : Option ZV → ZH → Prop} : zT d 97 217 L st h Q = zX (some ((24, 0, 0, 0, []), 218)) d 97 L st h Q := zT_eq rfl
theorem zt_97_218 {d : Nat} {L : ZL} {st : List ZV} {h : ZH} {Q : Option ZV → ZH → Prop} : zT d 97 218 L st h Q = zX (some ((0, 0, 0, 1, []), 219)) d 97 L st h Q := zT_eq rfl
theorem zt_97_219 {d : Nat} {L : ZL} {st : List ZV} {h : ZH} {Q : Option ZV → ZH → Prop} : zT d 97 219 L st h Q = zX (some ((6, 0, 0, 0, []), 220)) d 97 L st h Q := zT_eq rfl
theorem zt_97_220 {d : Nat} {L : ZL} {st : List ZV} {h : ZH} {Q : Option ZV → ZH → Prop} : zT d 97 220 L st h Q = zX (some ((25, 0, 0, 0, []), 221)) d 97 L st h Q := zT_eq rfl
theorem zt_97_221 {d : Nat} {L : ZL} {st : List ZV} {h : ZH} {Q : Option ZV → ZH → Prop} : zT d 97 221 L st h Q = zX (some ((2, 0, 0, 0, []), 222)) d 97 L st h Q := zT_eq rfl
theorem zt_97_222 {d : Nat} {L : ZL} {st : List ZV} {h : ZH} {Q : Option ZV → ZH → Prop} : zT d 97 222 L st h Q = zX (some ((21, 6, 12, 40, [0]), 225)) d 97 L st h Q := zT_eq rfl
theorem zt_97_225 {d : Nat} {L : ZL} {st : List ZV} {h : ZH} {Q : Option ZV → ZH → Prop} : zT d 97 225 L st h Q = zX (some ((1, 2, 0, 0, []), 226)) d 97 L st h Q := zT_eq rfl
theorem zt_97_226 {d : Nat} {L : ZL} {st : List ZV} {h : ZH} {Q : Option ZV → ZH → Prop} : zT d 97 226 L st h Q = zX (some ((2, 0, 0, 0, []), 227)) d 97 L st h Q := zT_eq rfl
theorem zt_97_227 {d : Nat} {L : ZL} {st : List ZV} {h : ZH} {Q : Option ZV → ZH → Prop} : zT d 97 227 L st h Q = zX (some ((21, 6, 14, 46, [0]), 230)) d 97 L st h Q := zT_eq rfl
theorem zt_97_230 {d : Nat} {L : ZL} {st : List ZV} {h : ZH} {Q : Option ZV → ZH → Prop} : zT d 97 230 L st h Q = zX (some ((1, 2, 0, 0, []), 231)) d 97 L st h Q := zT_eq rfl
theorem zt_97_231 {d : Nat} {L : ZL} {st : List ZV} {h : ZH} {Q : Option ZV → ZH → Prop} : zT d 97 231 L st h Q = zX (some ((24, 0, 0, 0, []), 232)) d 97 L st h Q := zT_eq rfl
theorem zt_97_232 {d : Nat} {L : ZL} {st : List ZV} {h : ZH} {Q : Option ZV → ZH → Prop} : zT d 97 232 L st h Q = zX (some ((2, 0, 0, 0, []), 233)) d 97 L st h Q := zT_eq rfl
theorem zt_97_233 {d : Nat} {L : ZL} {st : List ZV} {h : ZH} {Q : Option ZV → ZH → Prop} : zT d 97 233 L st h Q = zX (some ((21, 6, 19, 62, [0]), 236)) d 97 L st h Q := zT_eq rfl
theorem zt_97_236 {d : Nat} {L : ZL} {st : List ZV} {h : ZH} {Q : Option ZV → ZH → Prop} : zT d 97 236 L st h Q = zX (some ((1, 2, 0, 0, []), 237)) d 97 L st h Q := zT_eq rfl
theorem zt_97_237 {d : Nat} {L : ZL} {st : List ZV} {h : ZH} {Q : Option ZV → ZH → Prop} : zT d 97 237 L st h Q = zX (some ((24, 0, 0, 0, []), 238)) d 97 L st h Q := zT_eq rfl
theorem zt_97_238 {d : Nat} {L : ZL} {st : List ZV} {h : ZH} {Q : Option ZV → ZH → Prop} : zT d 97 238 L st h Q = zX (some ((11, 246, 1, 0, []), 241)) d 97 L st h Q := zT_eq rfl
theorem zt_97_241 {d : Nat} {L : ZL} {st : List ZV} {h : ZH} {Q : Option ZV → ZH → Prop} : zT d 97 241 L st h Q = zX (some ((0, 0, 1, 14, []), 243)) d 97 L st h Q := zT_eq rfl
theorem zt_97_243 {d : Nat} {L : ZL} {st : List ZV} {h : ZH} {Q : Option ZV → ZH → Prop} : zT d 97 243 L st h Q = zX (some ((13, 248, 0, 0, []), 246)) d 97 L st h Q := zT_eq rfl
theorem zt_97_246 {d : Nat} {L : ZL} {st : List ZV} {h : ZH} {Q : Option ZV → ZH → Prop} : zT d 97 246 L st h Q = zX (some ((0, 0, 1, 13, []), 248)) d 97 L st h Q := zT_eq rfl
theorem zt_97_248 {d : Nat} {L : ZL} {st : List ZV} {h : ZH} {Q : Option ZV → ZH → Prop} : zT d 97 248 L st h Q = zX (some ((25, 0, 0, 0, []), 249)) d 97 L st h Q := zT_eq rfl
theorem zt_97_249 {d : Nat} {L : ZL} {st : List ZV} {h : ZH} {Q : Option ZV → ZH → Prop} : zT d 97 249 L st h Q = zX (some ((0, 0, 0, 0, []), 250)) d 97 L st h Q := zT_eq rfl
theorem zt_97_250 {d : Nat} {L : ZL} {st : List ZV} {h : ZH} {Q : Option ZV → ZH → Prop} : zT d 97 250 L st h Q = zX (some ((51, 0, 1, 0, []), 251)) d 97 L st h Q := zT_eq rfl
theorem zt_97_251 {d : Nat} {L : ZL} {st : List ZV} {h : ZH} {Q : Option ZV → ZH → Prop} : zT d 97 251 L st h Q = zX (some ((2, 0, 0, 0, []), 252)) d 97 L st h Q := zT_eq rfl
theorem zt_97_252 {d : Nat} {L : ZL} {st : List ZV} {h : ZH} {Q : Option ZV → ZH → Prop} : zT d 97 252 L st h Q = zX (some ((21, 6, 12, 40, [0]), 255)) d 97 L st h Q := zT_eq rfl
theorem zt_97_255 {d : Nat} {L : ZL} {st : List ZV} {h : ZH} {Q : Option ZV → ZH → Prop} : zT d 97 255 L st h Q = zX (some ((1, 2, 0, 0, []), 256)) d 97 L st h Q := zT_eq rfl
theorem zt_97_256 {d : Nat} {L : ZL} {st : List ZV} {h : ZH} {Q : Option ZV → ZH → Prop} : zT d 97 256 L st h Q = zX (some ((24, 0, 0, 0, []), 257)) d 97 L st h Q := zT_eq rfl
theorem zt_97_257 {d : Nat} {L : ZL} {st : List ZV} {h : ZH} {Q : Option ZV → ZH → Prop} : zT d 97 257 L st h Q = zX (some ((0, 0, 1, 14, []), 259)) d 97 L st h Q := zT_eq rfl
theorem zt_97_259 {d : Nat} {L : ZL} {st : List ZV} {h : ZH} {Q : Option ZV → ZH → Prop} : zT d 97 259 L st h Q = zX (some ((11, 298, 1, 0, []), 262)) d 97 L st h Q := zT_eq rfl
theorem zt_97_262 {d : Nat} {L : ZL} {st : List ZV} {h : ZH} {Q : Option ZV → ZH → Prop} : zT d 97 262 L st h Q = zX (some ((2, 0, 0, 0, []), 263)) d 97 L st h Q := zT_eq rfl
theorem zt_97_263 {d : Nat} {L : ZL} {st : List ZV} {h : ZH} {Q : Option ZV → ZH → Prop} : zT d 97 263 L st h Q = zX (some ((7, 0, 0, 0, []), 264)) d 97 L st h Q := zT_eq rfl
theorem zt_97_264 {d : Nat} {L : ZL} {st : List ZV} {h : ZH} {Q : Option ZV → ZH → Prop} : zT d 97 264 L st h Q = zX (some ((20, 6, 21, 180, [0]), 267)) d 97 L st h Q := zT_eq rfl
theorem zt_97_267 {d : Nat} {L : ZL} {st : List ZV} {h : ZH} {Q : Option ZV → ZH → Prop} : zT d 97 267 L st h Q = zX (some ((0, 0, 0, 1, []), 268)) d 97 L st h Q := zT_eq rfl
theorem zt_97_268 {d : Nat} {L : ZL} {st : List ZV} {h : ZH} {Q : Option ZV → ZH → Prop} : zT d 97 268 L st h Q = zX (some ((6, 0, 0, 0, []), 269)) d 97 L st h Q := zT_eq rfl
theorem zt_97_269 {d : Nat} {L : ZL} {st : List ZV} {h : ZH} {Q : Option ZV → ZH → Prop} : zT d 97 269 L st h Q = zX (some ((22, 6, 21, 180, [0]), 272)) d 97 L st h Q := zT_eq rfl
theorem zt_97_272 {d : Nat} {L : ZL} {st : List ZV} {h : ZH} {Q : Option ZV → ZH → Prop} : zT d 97 272 L st h Q = zX (some ((2, 0, 0, 0, []), 273)) d 97 L st h Q := zT_eq rfl
theorem zt_97_273 {d : Nat} {L : ZL} {st : List ZV} {h : ZH} {Q : Option ZV → ZH → Prop} : zT d 97 273 L st h Q = zX (some ((1, 3, 0, 0, []), 274)) d 97 L st h Q := zT_eq rfl
theorem zt_97_274 {d : Nat} {L : ZL} {st : List ZV} {h : ZH} {Q : Option ZV → ZH → Prop} : zT d 97 274 L st h Q = zX (some ((2, 0, 0, 0, []), 275)) d 97 L st h Q := zT_eq rfl
theorem zt_97_275 {d : Nat} {L : ZL} {st : List ZV} {h : ZH} {Q : Option ZV → ZH → Prop} : zT d 97 275 L st h Q = zX (some ((21, 6, 17, 55, [0]), 278)) d 97 L st h Q := zT_eq rfl
theorem zt_97_278 {d : Nat} {L : ZL} {st : List ZV} {h : ZH} {Q : Option ZV → ZH → Prop} : zT d 97 278 L st h Q = zX (some ((1, 2, 0, 0, []), 279)) d 97 L st h Q := zT_eq rfl
theorem zt_97_279 {d : Nat} {L : ZL} {st : List ZV} {h : ZH} {Q : Option ZV → ZH → Prop} : zT d 97 279 L st h Q = zX (some ((26, 0, 0, 0, []), 280)) d 97 L st h Q := zT_eq rfl
theorem zt_97_280 {d : Nat} {L : ZL} {st : List ZV} {h : ZH} {Q : Option ZV → ZH → Prop} : zT d 97 280 L st h Q = zX (some ((12, 288, 0, 0, []), 283)) d 97 L st h Q := zT_eq rfl
theorem zt_97_283 {d : Nat} {L : ZL} {st : List ZV} {h : ZH} {Q : Option ZV → ZH → Prop} : zT d 97 283 L st h Q = zX (some ((0, 0, 1, -3, []), 285)) d 97 L st h Q := zT_eq rfl
theorem zt_97_285 {d : Nat} {L : ZL} {st : List ZV} {h : ZH} {Q : Option ZV → ZH → Prop} : zT d 97 285 L st h Q = zX (some ((13, 294, 0, 0, []), 288)) d 97 L st h Q := zT_eq rfl
theorem zt_97_288 {d : Nat} {L : ZL} {st : List ZV} {h : ZH} {Q : Option ZV → ZH → Prop} : zT d 97 288 L st h Q = zX (some ((2, 0, 0, 0, []), 289)) d 97 L st h Q := zT_eq rfl
theorem zt_97_289 {d : Nat} {L : ZL} {st : List ZV} {h : ZH} {Q : Option ZV → ZH → Prop} : zT d 97 289 L st h Q = zX (some ((21, 6, 16, 52, [0]), 292)) d 97 L st h Q := zT_eq rfl
theorem zt_97_292 {d : Nat} {L : ZL} {st : List ZV} {h : ZH} {Q : Option ZV → ZH → Prop} : zT d 97 292 L st h Q = zX (some ((1, 2, 0, 0, []), 293)) d 97 L st h Q := zT_eq rfl
theorem zt_97_293 {d : Nat} {L : ZL} {st : List ZV} {h : ZH} {Q : Option ZV → ZH → Prop} : zT d 97 293 L st h Q = zX (some ((24, 0, 0, 0, []), 294)) d 97 L st h Q := zT_eq rfl
theorem zt_97_294 {d : Nat} {L : ZL} {st : List ZV} {h : ZH} {Q : Option ZV → ZH → Prop} : zT d 97 294 L st h Q = zX (some ((40, 89, 3, 171, [1, 6]), 297)) d 97 L st h Q := zT_eq rfl
theorem zt_97_297 {d : Nat} {L : ZL} {st : List ZV} {h : ZH} {Q : Option ZV → ZH → Prop} : zT d 97 297 L st h Q = zX (some ((51, 0, 1, 0, []), 298)) d 97 L st h Q := zT_eq rfl
theorem zt_97_298 {d : Nat} {L : ZL} {st : List ZV} {h : ZH} {Q : Option ZV → ZH → Prop} : zT d 97 298 L st h Q = zX (some ((2, 0, 0, 0, []), 299)) d 97 L st h Q := zT_eq rfl
theorem zt_97_299 {d : Nat} {L : ZL} {st : List ZV} {h : ZH} {Q : Option ZV → ZH → Prop} : zT d 97 299 L st h Q = zX (some ((1, 3, 0, 0, []), 300)) d 97 L st h Q := zT_eq rfl
theorem zt_97_300 {d : Nat} {L : ZL} {st : List ZV} {h : ZH} {Q : Option ZV → ZH → Prop} : zT d 97 300 L st h Q = zX (some ((0, 0, 0, 0, []), 301)) d 97 L st h Q := zT_eq rfl
theorem zt_97_301 {d : Nat} {L : ZL} {st : List ZV} {h : ZH} {Q : Option ZV → ZH → Prop} : zT d 97 301 L st h Q = zX (some ((40, 89, 3, 171, [1, 6]), 304)) d 97 L st h Q := zT_eq rfl
theorem zt_97_304 {d : Nat} {L : ZL} {st : List ZV} {h : ZH} {Q : Option ZV → ZH → Prop} : zT d 97 304 L st h Q = zX (some ((51, 0, 1, 0, []), 305)) d 97 L st h Q := zT_eq rfl
theorem zt_98_0 {d : Nat} {L : ZL} {st : List ZV} {h : ZH} {Q : Option ZV → ZH → Prop} : zT d 98 0 L st h Q = zX (some ((1, 1, 0, 0, []), 1)) d 98 L st h Q := zT_eq rfl
theorem zt_98_1 {d : Nat} {L : ZL} {st : List ZV} {h : ZH} {Q : Option ZV → ZH → Prop} : zT d 98 1 L st h Q = zX (some ((12, 26, 2, 0, []), 4)) d 98 L st h Q := zT_eq rfl
theorem zt_98_4 {d : Nat} {L : ZL} {st : List ZV} {h : ZH} {Q : Option ZV → ZH → Prop} : zT d 98 4 L st h Q = zX (some ((1, 1, 0, 0, []), 5)) d 98 L st h Q := zT_eq rfl
theorem zt_98_5 {d : Nat} {L : ZL} {st : List ZV} {h : ZH} {Q : Option ZV → ZH → Prop} : zT d 98 5 L st h Q = zX (some ((2, 0, 0, 0, []), 6)) d 98 L st h Q := zT_eq rfl
theorem zt_98_6 {d : Nat} {L : ZL} {st : List ZV} {h : ZH} {Q : Option ZV → ZH → Prop} : zT d 98 6 L st h Q = zX (some ((20, 6, 0, 106, [0]), 9)) d 98 L st h Q := zT_eq rfl
theorem zt_98_9 {d : Nat} {L : ZL} {st : List ZV} {h : ZH} {Q : Option ZV → ZH → Prop} : zT d 98 9 L st h Q = zX (some ((11, 26, 3, 0, []), 12)) d 98 L st h Q := zT_eq rfl
theorem zt_98_12 {d : Nat} {L : ZL} {st : List ZV} {h : ZH} {Q : Option ZV → ZH → Prop} : zT d 98 12 L st h Q = zX (some ((1, 2, 0, 0, []), 13)) d 98 L st h Q := zT_eq rfl
theorem zt_98_13 {d : Nat} {L : ZL} {st : List ZV} {h : ZH} {Q : Option ZV → ZH → Prop} : zT d 98 13 L st h Q = zX (some ((12, 26, 2, 0, []), 16)) d 98 L st h Q := zT_eq rfl
theorem zt_98_16 {d : Nat} {L : ZL} {st : List ZV} {h : ZH} {Q : Option ZV → ZH → Prop} : zT d 98 16 L st h Q = zX (some ((1, 2, 0, 0, []), 17)) d 98 L st h Q := zT_eq rfl
theorem zt_98_17 {d : Nat} {L : ZL} {st : List ZV} {h : ZH} {Q : Option ZV → ZH → Prop} : zT d 98 17 L st h Q = zX (some ((2, 0, 0, 0, []), 18)) d 98 L st h Q := zT_eq rfl
theorem zt_98_18 {d : Nat} {L : ZL} {st : List ZV} {h : ZH} {Q : Option ZV → ZH → Prop} : zT d 98 18 L st h Q = zX (some ((21, 6, 2, 13, [0]), 21)) d 98 L st h Q := zT_eq rfl
theorem zt_98_21 {d : Nat} {L : ZL} {st : List ZV} {h : ZH} {Q : Option ZV → ZH → Prop} : zT d 98 21 L st h Q = zX (some ((1, 1, 0, 0, []), 22)) d 98 L st h Q := zT_eq rfl
theorem zt_98_22 {d : Nat} {L : ZL} {st : List ZV} {h : ZH} {Q : Option ZV → ZH → Prop} : zT d 98 22 L st h Q = zX (some ((24, 0, 0, 0, []), 23)) d 98 L st h Q := zT_eq rfl
theorem zt_98_23 {d : Nat} {L : ZL} {st : List ZV} {h : ZH} {Q : Option ZV → ZH → Prop} : zT d 98 23 L st h Q = zX (some ((11, 30, 2, 0, []), 26)) d 98 L st h Q := zT_eq rfl
theorem zt_98_26 {d : Nat} {L : ZL} {st : List ZV} {h : ZH} {Q : Option ZV → ZH → Prop} : zT d 98 26 L st h Q = zX (some ((0, 0, 0, -1, []), 27)) d 98 L st h Q := zT_eq rfl
theorem zt_98_27 {d : Nat} {L : ZL} {st : List ZV} {h : ZH} {Q : Option ZV → ZH → Prop} : zT d 98 27 L st h Q = zX (some ((13, 41, 0, 0, []), 30)) d 98 L st h Q := zT_eq rfl
theorem zt_98_30 {d : Nat} {L : ZL} {st : List ZV} {h : ZH} {Q : Option ZV → ZH → Prop} : zT d 98 30 L st h Q = zX (some ((2, 0, 0, 0, []), 31)) d 98 L st h Q := zT_eq rfl
theorem zt_98_31 {d : Nat} {L : ZL} {st : List ZV} {h : ZH} {Q : Option ZV → ZH → Prop} : zT d 98 31 L st h Q = zX (some ((21, 6, 7, 28, [0]), 34)) d 98 L st h Q := zT_eq rfl
theorem zt_98_34 {d : Nat} {L : ZL} {st : List ZV} {h : ZH} {Q : Option ZV → ZH → Prop} : zT d 98 34 L st h Q = zX (some ((0, 0, 1, 10, []), 36)) d 98 L st h Q := zT_eq rfl
theorem zt_98_36 {d : Nat} {L : ZL} {st : List ZV} {h : ZH} {Q : Option ZV → ZH → Prop} : zT d 98 36 L st h Q = zX (some ((1, 1, 0, 0, []), 37)) d 98 L st h Q := zT_eq rfl
theorem zt_98_37 {d : Nat} {L : ZL} {st : List ZV} {h : ZH} {Q : Option ZV → ZH → Prop} : zT d 98 37 L st h Q = zX (some ((6, 0, 2, 0, []), 38)) d 98 L st h Q := zT_eq rfl
theorem zt_98_38 {d : Nat} {L : ZL} {st : List ZV} {h : ZH} {Q : Option ZV → ZH → Prop} : zT d 98 38 L st h Q = zX (some ((1, 2, 0, 0, []), 39)) d 98 L st h Q := zT_eq rfl
theorem zt_98_39 {d : Nat} {L : ZL} {st : List ZV} {h : ZH} {Q : Option ZV → ZH → Prop} : zT d 98 39 L st h Q = zX (some ((6, 0, 0, 0, []), 40)) d 98 L st h Q := zT_eq rfl
theorem zt_98_40 {d : Nat} {L : ZL} {st : List ZV} {h : ZH} {Q : Option ZV → ZH → Prop} : zT d 98 40 L st h Q = zX (some ((24, 0, 0, 0, []), 41)) d 98 L st h Q := zT_eq rfl
theorem zt_98_41 {d : Nat} {L : ZL} {st : List ZV} {h : ZH} {Q : Option ZV → ZH → Prop} : zT d 98 41 L st h Q = zX (some ((51, 0, 0, 0, []), 42)) d 98 L st h Q := zT_eq rfl
theorem zt_99_0 {d : Nat} {L : ZL} {st : List ZV} {h : ZH} {Q : Option ZV → ZH → Prop} : zT d 99 0 L st h Q = zX (some ((1, 1, 0, 0, []), 1)) d 99 L st h Q := zT_eq rfl
theorem zt_99_1 {d : Nat} {L : ZL} {st : List ZV} {h : ZH} {Q : Option ZV → ZH → Prop} : zT d 99 1 L st h Q = zX (some ((40, 67, 1, 102, [0, 0]), 4)) d 99 L st h Q := zT_eq rfl
theorem zt_99_4 {d : Nat} {L : ZL} {st : List ZV} {h : ZH} {Q : Option ZV → ZH → Prop} : zT d 99 4 L st h Q = zX (some ((12, 11, 0, 0, []), 7)) d 99 L st h Q := zT_eq rfl
theorem zt_99_7 {d : Nat} {L : ZL} {st : List ZV} {h : ZH} {Q : Option ZV → ZH → Prop} : zT d 99 7 L st h Q = zX (some ((0, 0, 0, -1, []), 8)) d 99 L st h Q := zT_eq rfl
theorem zt_99_8 {d : Nat} {L : ZL} {st : List ZV} {h : ZH} {Q : Option ZV → ZH → Prop} : zT d 99 8 L st h Q = zX (some ((13, 16, 0, 0, []), 11)) d 99 L st h Q := zT_eq rfl
theorem zt_99_11 {d : Nat} {L : ZL} {st : List ZV} {h : ZH} {Q : Option ZV → ZH → Prop} : zT d 99 11 L st h Q = zX (some ((2, 0, 0, 0, []), 12)) d 99 L st h Q := zT_eq rfl
theorem zt_99_12 {d : Nat} {L : ZL} {st : List ZV} {h : ZH} {Q : Option ZV → ZH → Prop} : zT d 99 12 L st h Q = zX (some ((1, 1, 0, 0, []), 13)) d 99 L st h Q := zT_eq rfl
theorem zt_99_13 {d : Nat} {L : ZL} {st : List ZV} {h : ZH} {Q : Option ZV → ZH → Prop} : zT d 99 13 L st h Q = zX (some ((40, 79, 2, 143, [1, 6]), 16)) d 99 L st h Q := zT_eq rfl
theorem zt_99_16 {d : Nat} {L : ZL} {st : List ZV} {h : ZH} {Q : Option ZV → ZH → Prop} : zT d 99 16 L st h Q = zX (some ((51, 0, 0, 0, []), 17)) d 99 L st h Q := zT_eq rfl
theorem zt_100_0 {d : Nat} {L : ZL} {st : List ZV} {h : ZH} {Q : Option ZV → ZH → Prop} : zT d 100 0 L st h Q = zX (some ((2, 0, 0, 0, []), 1)) d 100 L st h Q := zT_eq rfl
theorem zt_100_1 {d : Nat} {L : ZL} {st : List ZV} {h : ZH} {Q : Option ZV → ZH → Prop} : zT d 100 1 L st h Q = zX (some ((1, 1, 0, 0, []), 2)) d 100 L st h Q := zT_eq rfl
theorem zt_100_2 {d : Nat} {L : ZL} {st : List ZV} {h : ZH} {Q : Option ZV → ZH → Prop} : zT d 100 2 L st h Q = zX (some ((40, 99, 2, 196, [1, 6]), 5)) d 100 L st h Q := zT_eq rfl
theorem zt_100_5 {d : Nat} {L : ZL} {st : List ZV} {h : ZH} {Q : Option ZV → ZH → Prop} : zT d 100 5 L st h Q = zX (some ((3, 2, 0, 0, []), 6)) d 100 L st h Q := zT_eq rfl
theorem zt_100_6 {d : Nat} {L : ZL} {st : List ZV} {h : ZH} {Q : Option ZV → ZH → Prop} : zT d 100 6 L st h Q = zX (some ((1, 2, 0, 0, []), 7)) d 100 L st h Q := zT_eq rfl
theorem zt_100_7 {d : Nat} {L : ZL} {st : List ZV} {h : ZH} {Q : Option ZV → ZH → Prop} : zT d 100 7 L st h Q = zX (some ((12, 14, 3, 0, []), 10)) d 100 L st h Q := zT_eq rfl
theorem zt_100_10 {d : Nat} {L : ZL} {st : List ZV} {h : ZH} {Q : Option ZV → ZH → Prop} : zT d 100 10 L st h Q = zX (some ((0, 0, 0, -1, []), 11)) d 100 L st h Q := zT_eq rfl
theorem zt_100_11 {d : Nat} {L : ZL} {st : List ZV} {h : ZH} {Q : Option ZV → ZH → Prop} : zT d 100 11 L st h Q = zX (some ((13, 20, 0, 0, []), 14)) d 100 L st h Q := zT_eq rfl
theorem zt_100_14 {d : Nat} {L : ZL} {st : List ZV} {h : ZH} {Q : Option ZV → ZH → Prop} : zT d 100 14 L st h Q = zX (some ((2, 0, 0, 0, []), 15)) d 100 L st h Q := zT_eq rfl
theorem zt_100_15 {d : Nat} {L : ZL} {st : List ZV} {h : ZH} {Q : Option ZV → ZH → Prop} : zT d 100 15 L st h Q = zX (some ((21, 6, 12, 40, [0]), 18)) d 100 L st h Q := zT_eq rfl
theorem zt_100_18 {d : Nat} {L : ZL} {st : List ZV} {h : ZH} {Q : Option ZV → ZH → Prop} : zT d 100 18 L st h Q = zX (some ((1, 2, 0, 0, []), 19)) d 100 L st h Q := zT_eq rfl
theorem zt_100_19 {d : Nat} {L : ZL} {st : List ZV} {h : ZH} {Q : Option ZV → ZH → Prop} : zT d 100 19 L st h Q = zX (some ((24, 0, 0, 0, []), 20)) d 100 L st h Q := zT_eq rfl
theorem zt_100_20 {d : Nat} {L : ZL} {st : List ZV} {h : ZH} {Q : Option ZV → ZH → Prop} : zT d 100 20 L st h Q = zX (some ((51, 0, 0, 0, []), 21)) d 100 L st h Q := zT_eq rfl
theorem zt_101_0 {d : Nat} {L : ZL} {st : List ZV} {h : ZH} {Q : Option ZV → ZH → Prop} : zT d 101 0 L st h Q = zX (some ((1, 1, 0, 0, []), 1)) d 101 L st h Q := zT_eq rfl
theorem zt_101_1 {d : Nat} {L : ZL} {st : List ZV} {h : ZH} {Q : Option ZV → ZH → Prop} : zT d 101 1 L st h Q = zX (some ((40, 67, 1, 102, [0, 0]), 4)) d 101 L st h Q := zT_eq rfl
theorem zt_101_4 {d : Nat} {L : ZL} {st : List ZV} {h : ZH} {Q : Option ZV → ZH → Prop} : zT d 101 4 L st h Q = zX (some ((12, 11, 1, 0, []), 7)) d 101 L st h Q := zT_eq rfl
theorem zt_101_7 {d : Nat} {L : ZL} {st : List ZV} {h : ZH} {Q : Option ZV → ZH → Prop} : zT d 101 7 L st h Q = zX (some ((1, 2, 0, 0, []), 8)) d 101 L st h Q := zT_eq rfl
theorem zt_101_8 {d : Nat} {L : ZL} {st : List ZV} {h : ZH} {Q : Option ZV → ZH → Prop} : zT d 101 8 L st h Q = zX (some ((12, 15, 3, 0, []), 11)) d 101 L st h Q := zT_eq rfl
theorem zt_101_11 {d : Nat} {L : ZL} {st : List ZV} {h : ZH} {Q : Option ZV → ZH → Prop} : zT d 101 11 L st h Q = zX (some ((0, 0, 0, -1, []), 12)) d 101 L st h Q := zT_eq rfl
theorem zt_101_12 {d : Nat} {L : ZL} {st : List ZV} {h : ZH} {Q : Option ZV → ZH → Prop} : zT d 101 12 L st h Q = zX (some ((13, 21, 0, 0, []), 15)) d 101 L st h Q := zT_eq rfl
theorem zt_101_15 {d : Nat} {L : ZL} {st : List ZV} {h : ZH} {Q : Option ZV → ZH → Prop} : zT d 101 15 L st h Q = zX (some ((2, 0, 0, 0, []), 16)) d 101 L st h Q := zT_eq rfl
theorem zt_101_16 {d : Nat} {L : ZL} {st : List ZV} {h : ZH} {Q : Option ZV → ZH → Prop} : zT d 101 16 L st h Q = zX (some ((1, 1, 0, 0, []), 17)) d 101 L st h Q := zT_eq rfl
theorem zt_101_17 {d : Nat} {L : ZL} {st : List ZV} {h : ZH} {Q : Option ZV → ZH → Prop} : zT d 101 17 L st h Q = zX (some ((1, 2, 0, 0, []), 18)) d 101 L st h Q := zT_eq rfl
theorem zt_101_18 {d : Nat} {L : ZL} {st : List ZV} {h : ZH} {Q : Option ZV → ZH → Prop} : zT d 101 18 L st h Q = zX (some ((40, 82, 3, 149, [1, 6]), 21)) d 101 L st h Q := zT_eq rfl
theorem zt_101_21 {d : Nat} {L : ZL} {st : List ZV} {h : ZH} {Q : Option ZV → ZH → Prop} : zT d 101 21 L st h Q = zX (some ((51, 0, 0, 0, []), 22)) d 101 L st h Q := zT_eq rfl
theorem zt_102_0 {d : Nat} {L : ZL} {st : List ZV} {h : ZH} {Q : Option ZV → ZH → Prop} : zT d 102 0 L st h Q = zX (some ((1, 1, 0, 0, []), 1)) d 102 L st h Q := zT_eq rfl
theorem zt_102_1 {d : Nat} {L : ZL} {st : List ZV} {h : ZH} {Q : Option ZV → ZH → Prop} : zT d 102 1 L st h Q = zX (some ((40, 67, 1, 102, [0, 0]), 4)) d 102 L st h Q := zT_eq rfl
theorem zt_102_4 {d : Nat} {L : ZL} {st : List ZV} {h : ZH} {Q : Option ZV → ZH → Prop} : zT d 102 4 L st h Q = zX (some ((12, 11, 0, 0, []), 7)) d 102 L st h Q := zT_eq rfl
theorem zt_102_7 {d : Nat} {L : ZL} {st : List ZV} {h : ZH} {Q : Option ZV → ZH → Prop} : zT d 102 7 L st h Q = zX (some ((0, 0, 0, -1, []), 8)) d 102 L st h Q := zT_eq rfl
theorem zt_102_8 {d : Nat} {L : ZL} {st : List ZV} {h : ZH} {Q : Option ZV → ZH → Prop} : zT d 102 8 L st h Q = zX (some ((13, 25, 0, 0, []), 11)) d 102 L st h Q := zT_eq rfl
theorem zt_102_11 {d : Nat} {L : ZL} {st : List ZV} {h : ZH} {Q : Option ZV → ZH → Prop} : zT d 102 11 L st h Q = zX (some ((2, 0, 0, 0, []), 12)) d 102 L st h Q := zT_eq rfl
theorem zt_102_12 {d : Nat} {L : ZL} {st : List ZV} {h : ZH} {Q : Option ZV → ZH → Prop} : zT d 102 12 L st h Q = zX (some ((21, 6, 31, 92, [0]), 15)) d 102 L st h Q := zT_eq rfl
theorem zt_102_15 {d : Nat} {L : ZL} {st : List ZV} {h : ZH} {Q : Option ZV → ZH → Prop} : zT d 102 15 L st h Q = zX (some ((1, 1, 0, 0, []), 16)) d 102 L st h Q := zT_eq rfl
theorem zt_102_16 {d : Nat} {L : ZL} {st : List ZV} {h : ZH} {Q : Option ZV → ZH → Prop} : zT d 102 16 L st h Q = zX (some ((26, 0, 0, 0, []), 17)) d 102 L st h Q := zT_eq rfl
theorem zt_102_17 {d : Nat} {L : ZL} {st : List ZV} {h : ZH} {Q : Option ZV → ZH → Prop} : zT d 102 17 L st h Q = zX (some ((12, 24, 0, 0, []), 20)) d 102 L st h Q := zT_eq rfl
theorem zt_102_20 {d : Nat} {L : ZL} {st : List ZV} {h : ZH} {Q : Option ZV → ZH → Prop} : zT d 102 20 L st h Q = zX (some ((0, 0, 0, 1, []), 21)) d 102 L st h Q := zT_eq rfl
theorem zt_102_21 {d : Nat} {L : ZL} {st : List ZV} {h : ZH} {Q : Option ZV → ZH → Prop} : zT d 102 21 L st h Q = zX (some ((13, 25, 0, 0, []), 24)) d 102 L st h Q := zT_eq rfl
theorem zt_102_24 {d : Nat} {L : ZL} {st : List ZV} {h : ZH} {Q : Option ZV → ZH → Prop} : zT d 102 24 L st h Q = zX (some ((0, 0, 0, 0, []), 25)) d 102 L st h Q := zT_eq rfl
theorem zt_102_25 {d : Nat} {L : ZL} {st : List ZV} {h : ZH} {Q : Option ZV → ZH → Prop} : zT d 102 25 L st h Q = zX (some ((51, 0, 0, 0, []), 26)) d 102 L st h Q := zT_eq rfl
theorem zt_103_0 {d : Nat} {L : ZL} {st : List ZV} {h : ZH} {Q : Option ZV → ZH → Prop} : zT d 103 0 L st h Q = zX (some ((1, 1, 0, 0, []), 1)) d 103 L st h Q := zT_eq rfl
theorem zt_103_1 {d : Nat} {L : ZL} {st : List ZV} {h : ZH} {Q : Option ZV → ZH → Prop} : zT d 103 1 L st h Q = zX (some ((40, 71, 1, 117, [0, 0]), 4)) d 103 L st h Q := zT_eq rfl
theorem zt_103_4 {d : Nat} {L : ZL} {st : List ZV} {h : ZH} {Q : Option ZV → ZH → Prop} : zT d 103 4 L st h Q = zX (some ((12, 16, 1, 0, []), 7)) d 103 L st h Q := zT_eq rfl
theorem zt_103_7 {d : Nat} {L : ZL} {st : List ZV} {h : ZH} {Q : Option ZV → ZH → Prop} : zT d 103 7 L st h Q = zX (some ((2, 0, 0, 0, []), 8)) d 103 L st h Q := zT_eq rfl
theorem zt_103_8 {d : Nat} {L : ZL} {st : List ZV} {h : ZH} {Q : Option ZV → ZH → Prop} : zT d 103 8 L st h Q = zX (some ((21, 6, 22, 65, [0]), 11)) d 103 L st h Q := zT_eq rfl
theorem zt_103_11 {d : Nat} {L : ZL} {st : List ZV} {h : ZH} {Q : Option ZV → ZH → Prop} : zT d 103 11 L st h Q = zX (some ((1, 1, 0, 0, []), 12)) d 103 L st h Q := zT_eq rfl
theorem zt_103_12 {d : Nat} {L : ZL} {st : List ZV} {h : ZH} {Q : Option ZV → ZH → Prop} : zT d 103 12 L st h Q = zX (some ((24, 0, 0, 0, []), 13)) d 103 L st h Q := zT_eq rfl
theorem zt_103_13 {d : Nat} {L : ZL} {st : List ZV} {h : ZH} {Q : Option ZV → ZH → Prop} : zT d 103 13 L st h Q = zX (some ((12, 18, 3, 0, []), 16)) d 103 L st h Q := zT_eq rfl
theorem zt_103_16 {d : Nat} {L : ZL} {st : List ZV} {h : ZH} {Q : Option ZV → ZH → Prop} : zT d 103 16 L st h Q = zX (some ((0, 0, 0, -1, []), 17)) d 103 L st h Q := zT_eq rfl
theorem zt_103_17 {d : Nat} {L : ZL} {st : List ZV} {h : ZH} {Q : Option ZV → ZH → Prop} : zT d 103 17 L st h Q = zX (some ((51, 0, 0, 0, []), 18)) d 103 L st h Q := zT_eq rfl
theorem zt_103_18 {d : Nat} {L : ZL} {st : List ZV} {h : ZH} {Q : Option ZV → ZH → Prop} : zT d 103 18 L st h Q = zX (some ((0, 0, 0, 2, []), 19)) d 103 L st h Q := zT_eq rfl
theorem zt_103_19 {d : Nat} {L : ZL} {st : List ZV} {h : ZH} {Q : Option ZV → ZH → Prop} : zT d 103 19 L st h Q = zX (some ((2, 0, 0, 0, []), 20)) d 103 L st h Q := zT_eq rfl
theorem zt_103_20 {d : Nat} {L : ZL} {st : List ZV} {h : ZH} {Q : Option ZV → ZH → Prop} : zT d 103 20 L st h Q = zX (some ((21, 6, 22, 65, [0]), 23)) d 103 L st h Q := zT_eq rfl
theorem zt_103_23 {d : Nat} {L : ZL} {st : List ZV} {h : ZH} {Q : Option ZV → ZH → Prop} : zT d 103 23 L st h Q = zX (some ((1, 1, 0, 0, []), 24)) d 103 L st h Q := zT_eq rfl
theorem zt_103_24 {d : Nat} {L : ZL} {st : List ZV} {h : ZH} {Q : Option ZV → ZH → Prop} : zT d 103 24 L st h Q = zX (some ((24, 0, 0, 0, []), 25)) d 103 L st h Q := zT_eq rfl
theorem zt_103_25 {d : Nat} {L : ZL} {st : List ZV} {h : ZH} {Q : Option ZV → ZH → Prop} : zT d 103 25 L st h Q = zX (some ((6, 0, 2, 0, []), 26)) d 103 L st h Q := zT_eq rfl
theorem zt_103_26 {d : Nat} {L : ZL} {st : List ZV} {h : ZH} {Q : Option ZV → ZH → Prop} : zT d 103 26 L st h Q = zX (some ((2, 0, 0, 0, []), 27)) d 103 L st h Q := zT_eq rfl
theorem zt_103_27 {d : Nat} {L : ZL} {st : List ZV} {h : ZH} {Q : Option ZV → ZH → Prop} : zT d 103 27 L st h Q = zX (some ((21, 6, 23, 68, [0]), 30)) d 103 L st h Q := zT_eq rfl
theorem zt_103_30 {d : Nat} {L : ZL} {st : List ZV} {h : ZH} {Q : Option ZV → ZH → Prop} : zT d 103 30 L st h Q = zX (some ((1, 1, 0, 0, []), 31)) d 103 L st h Q := zT_eq rfl
theorem zt_103_31 {d : Nat} {L : ZL} {st : List ZV} {h : ZH} {Q : Option ZV → ZH → Prop} : zT d 103 31 L st h Q = zX (some ((26, 0, 0, 0, []), 32)) d 103 L st h Q := zT_eq rfl
theorem zt_103_32 {d : Nat} {L : ZL} {st : List ZV} {h : ZH} {Q : Option ZV → ZH → Prop} : zT d 103 32 L st h Q = zX (some ((12, 39, 0, 0, []), 35)) d 103 L st h Q := zT_eq rfl
theorem zt_103_35 {d : Nat} {L : ZL} {st : List ZV} {h : ZH} {Q : Option ZV → ZH → Prop} : zT d 103 35 L st h Q = zX (some ((0, 0, 0, 1, []), 36)) d 103 L st h Q := zT_eq rfl
theorem zt_103_36 {d : Nat} {L : ZL} {st : List ZV} {h : ZH} {Q : Option ZV → ZH → Prop} : zT d 103 36 L st h Q = zX (some ((13, 40, 0, 0, []), 39)) d 103 L st h Q := zT_eq rfl
theorem zt_103_39 {d : Nat} {L : ZL} {st : List ZV} {h : ZH} {Q : Option ZV → ZH → Prop} : zT d 103 39 L st h Q = zX (some ((0, 0, 0, 0, []), 40)) d 103 L st h Q := zT_eq rfl
theorem zt_103_40 {d : Nat} {L : ZL} {st : List ZV} {h : ZH} {Q : Option ZV → ZH → Prop} : zT d 103 40 L st h Q = zX (some ((6, 0, 0, 0, []), 41)) d 103 L st h Q := zT_eq rfl
theorem zt_103_41 {d : Nat} {L : ZL} {st : List ZV} {h : ZH} {Q : Option ZV → ZH → Prop} : zT d 103 41 L st h Q = zX (some ((51, 0, 0, 0, []), 42)) d 103 L st h Q := zT_eq rfl
theorem zt_104_0 {d : Nat} {L : ZL} {st : List ZV} {h : ZH} {Q : Option ZV → ZH → Prop} : zT d 104 0 L st h Q = zX (some ((1, 1, 0, 0, []), 1)) d 104 L st h Q := zT_eq rfl
theorem zt_104_1 {d : Nat} {L : ZL} {st : List ZV} {h : ZH} {Q : Option ZV → ZH → Prop} : zT d 104 1 L st h Q = zX (some ((40, 67, 1, 102, [0, 0]), 4)) d 104 L st h Q := zT_eq rfl
theorem zt_104_4 {d : Nat} {L : ZL} {st : List ZV} {h : ZH} {Q : Option ZV → ZH → Prop} : zT d 104 4 L st h Q = zX (some ((12, 28, 1, 0, []), 7)) d 104 L st h Q := zT_eq rfl
theorem zt_104_7 {d : Nat} {L : ZL} {st : List ZV} {h : ZH} {Q : Option ZV → ZH → Prop} : zT d 104 7 L st h Q = zX (some ((1, 2, 0, 0, []), 8)) d 104 L st h Q := zT_eq rfl
theorem zt_104_8 {d : Nat} {L : ZL} {st : List ZV} {h : ZH} {Q : Option ZV → ZH → Prop} : zT d 104 8 L st h Q = zX (some ((40, 71, 1, 117, [0, 0]), 11)) d 104 L st h Q := zT_eq rfl
theorem zt_104_11 {d : Nat} {L : ZL} {st : List ZV} {h : ZH} {Q : Option ZV → ZH → Prop} : zT d 104 11 L st h Q = zX (some ((12, 28, 1, 0, []), 14)) d 104 L st h Q := zT_eq rfl
theorem zt_104_14 {d : Nat} {L : ZL} {st : List ZV} {h : ZH} {Q : Option ZV → ZH → Prop} : zT d 104 14 L st h Q = zX (some ((2, 0, 0, 0, []), 15)) d 104 L st h Q := zT_eq rfl
theorem zt_104_15 {d : Nat} {L : ZL} {st : List ZV} {h : ZH} {Q : Option ZV → ZH → Prop} : zT d 104 15 L st h Q = zX (some ((21, 6, 26, 77, [0]), 18)) d 104 L st h Q := zT_eq rfl
theorem zt_104_18 {d : Nat} {L : ZL} {st : List ZV} {h : ZH} {Q : Option ZV → ZH → Prop} : zT d 104 18 L st h Q = zX (some ((0, 0, 1, 16, []), 20)) d 104 L st h Q := zT_eq rfl
theorem zt_104_20 {d : Nat} {L : ZL} {st : List ZV} {h : ZH} {Q : Option ZV → ZH → Prop} : zT d 104 20 L st h Q = zX (some ((1, 1, 0, 0, []), 21)) d 104 L st h Q := zT_eq rfl
theorem zt_104_21 {d : Nat} {L : ZL} {st : List ZV} {h : ZH} {Q : Option ZV → ZH → Prop} : zT d 104 21 L st h Q = zX (some ((6, 0, 2, 0, []), 22)) d 104 L st h Q := zT_eq rfl
theorem zt_104_22 {d : Nat} {L : ZL} {st : List ZV} {h : ZH} {Q : Option ZV → ZH → Prop} : zT d 104 22 L st h Q = zX (some ((1, 2, 0, 0, []), 23)) d 104 L st h Q := zT_eq rfl
theorem zt_104_23 {d : Nat} {L : ZL} {st : List ZV} {h : ZH} {Q : Option ZV → ZH → Prop} : zT d 104 23 L st h Q = zX (some ((6, 0, 0, 0, []), 24)) d 104 L st h Q := zT_eq rfl
theorem zt_104_24 {d : Nat} {L : ZL} {st : List ZV} {h : ZH} {Q : Option ZV → ZH → Prop} : zT d 104 24 L st h Q = zX (some ((24, 0, 0, 0, []), 25)) d 104 L st h Q := zT_eq rfl
theorem zt_104_25 {d : Nat} {L : ZL} {st : List ZV} {h : ZH} {Q : Option ZV → ZH → Prop} : zT d 104 25 L st h Q = zX (some ((12, 30, 1, 0, []), 28)) d 104 L st h Q := zT_eq rfl
theorem zt_104_28 {d : Nat} {L : ZL} {st : List ZV} {h : ZH} {Q : Option ZV → ZH → Prop} : zT d 104 28 L st h Q = zX (some ((0, 0, 0, -1, []), 29)) d 104 L st h Q := zT_eq rfl
theorem zt_104_29 {d : Nat} {L : ZL} {st : List ZV} {h : ZH} {Q : Option ZV → ZH → Prop} : zT d 104 29 L st h Q = zX (some ((51, 0, 0, 0, []), 30)) d 104 L st h Q := zT_eq rfl
theorem zt_104_30 {d : Nat} {L : ZL} {st : List ZV} {h : ZH} {Q : Option ZV → ZH → Prop} : zT d 104 30 L st h Q = zX (some ((0, 0, 1, 16, []), 32)) d 104 L st h Q := zT_eq rfl
theorem zt_104_32 {d : Nat} {L : ZL} {st : List ZV} {h : ZH} {Q : Option ZV → ZH → Prop} : zT d 104 32 L st h Q = zX (some ((1, 1, 0, 0, []), 33)) d 104 L st h Q := zT_eq rfl
theorem zt_104_33 {d : Nat} {L : ZL} {st : List ZV} {h : ZH} {Q : Option ZV → ZH → Prop} : zT d 104 33 L st h Q = zX (some ((6, 0, 2, 0, []), 34)) d 104 L st h Q := zT_eq rfl
theorem zt_104_34 {d : Nat} {L : ZL} {st : List ZV} {h : ZH} {Q : Option ZV → ZH → Prop} : zT d 104 34 L st h Q = zX (some ((1, 2, 0, 0, []), 35)) d 104 L st h Q := zT_eq rfl
theorem zt_104_35 {d : Nat} {L : ZL} {st : List ZV} {h : ZH} {Q : Option ZV → ZH → Prop} : zT d 104 35 L st h Q = zX (some ((6, 0, 0, 0, []), 36)) d 104 L st h Q := zT_eq rfl
theorem zt_104_36 {d : Nat} {L : ZL} {st : List ZV} {h : ZH} {Q : Option ZV → ZH → Prop} : zT d 104 36 L st h Q = zX (some ((3, 3, 0, 0, []), 37)) d 104 L st h Q := zT_eq rfl
theorem zt_104_37 {d : Nat} {L : ZL} {st : List ZV} {h : ZH} {Q : Option ZV → ZH → Prop} : zT d 104 37 L st h Q = zX (some ((0, 0, 0, 2, []), 38)) d 104 L st h Q := zT_eq rfl
theorem zt_104_38 {d : Nat} {L : ZL} {st : List ZV} {h : ZH} {Q : Option ZV → ZH → Prop} : zT d 104 38 L st h Q = zX (some ((2, 0, 0, 0, []), 39)) d 104 L st h Q := zT_eq rfl
theorem zt_104_39 {d : Nat} {L : ZL} {st : List ZV} {h : ZH} {Q : Option ZV → ZH → Prop} : zT d 104 39 L st h Q = zX (some ((21, 6, 27, 80, [0]), 42)) d 104 L st h Q := zT_eq rfl
theorem zt_104_42 {d : Nat} {L : ZL} {st : List ZV} {h : ZH} {Q : Option ZV → ZH → Prop} : zT d 104 42 L st h Q = zX (some ((1, 3, 0, 0, []), 43)) d 104 L st h Q := zT_eq rfl
theorem zt_104_43 {d : Nat} {L : ZL} {st : List ZV} {h : ZH} {Q : Option ZV → ZH → Prop} : zT d 104 43 L st h Q = zX (some ((24, 0, 0, 0, []), 44)) d 104 L st h Q := zT_eq rfl
theorem zt_104_44 {d : Nat} {L : ZL} {st : List ZV} {h : ZH} {Q : Option ZV → ZH → Prop} : zT d 104 44 L st h Q = zX (some ((6, 0, 2, 0, []), 45)) d 104 L st h Q := zT_eq rfl
theorem zt_104_45 {d : Nat} {L : ZL} {st : List ZV} {h : ZH} {Q : Option ZV → ZH → Prop} : zT d 104 45 L st h Q = zX (some ((2, 0, 0, 0, []), 46)) d 104 L st h Q := zT_eq rfl
theorem zt_104_46 {d : Nat} {L : ZL} {st : List ZV} {h : ZH} {Q : Option ZV → ZH → Prop} : zT d 104 46 L st h Q = zX (some ((21, 6, 28, 83, [0]), 49)) d 104 L st h Q := zT_eq rfl
theorem zt_104_49 {d : Nat} {L : ZL} {st : List ZV} {h : ZH} {Q : Option ZV → ZH → Prop} : zT d 104 49 L st h Q = zX (some ((1, 3, 0, 0, []), 50)) d 104 L st h Q := zT_eq rfl
theorem zt_104_50 {d : Nat} {L : ZL} {st : List ZV} {h : ZH} {Q : Option ZV → ZH → Prop} : zT d 104 50 L st h Q = zX (some ((26, 0, 0, 0, []), 51)) d 104 L st h Q := zT_eq rfl
theorem zt_104_51 {d : Nat} {L : ZL} {st : List ZV} {h : ZH} {Q : Option ZV → ZH → Prop} : zT d 104 51 L st h Q = zX (some ((12, 58, 0, 0, []), 54)) d 104 L st h Q := zT_eq rfl
theorem zt_104_54 {d : Nat} {L : ZL} {st : List ZV} {h : ZH} {Q : Option ZV → ZH → Prop} : zT d 104 54 L st h Q = zX (some ((0, 0, 0, 1, []), 55)) d 104 L st h Q := zT_eq rfl
theorem zt_104_55 {d : Nat} {L : ZL} {st : List ZV} {h : ZH} {Q : Option ZV → ZH → Prop} : zT d 104 55 L st h Q = zX (some ((13, 59, 0, 0, []), 58)) d 104 L st h Q := zT_eq rfl
theorem zt_104_58 {d : Nat} {L : ZL} {st : List ZV} {h : ZH} {Q : Option ZV → ZH → Prop} : zT d 104 58 L st h Q = zX (some ((0, 0, 0, 0, []), 59)) d 104 L st h Q := zT_eq rfl
theorem zt_104_59 {d : Nat} {L : ZL} {st : List ZV} {h : ZH} {Q : Option ZV → ZH → Prop} : zT d 104 59 L st h Q = zX (some ((6, 0, 0, 0, []), 60)) d 104 L st h Q := zT_eq rfl
theorem zt_104_60 {d : Nat} {L : ZL} {st : List ZV} {h : ZH} {Q : Option ZV → ZH → Prop} : zT d 104 60 L st h Q = zX (some ((51, 0, 0, 0, []), 61)) d 104 L st h Q := zT_eq rfl
theorem zt_105_0 {d : Nat} {L : ZL} {st : List ZV} {h : ZH} {Q : Option ZV → ZH → Prop} : zT d 105 0 L st h Q = zX (some ((1, 1, 0, 0, []), 1)) d 105 L st h Q := zT_eq rfl
theorem zt_105_1 {d : Nat} {L : ZL} {st : List ZV} {h : ZH} {Q : Option ZV → ZH → Prop} : zT d 105 1 L st h Q = zX (some ((12, 10, 2, 0, []), 4)) d 105 L st h Q := zT_eq rfl
theorem zt_105_4 {d : Nat} {L : ZL} {st : List ZV} {h : ZH} {Q : Option ZV → ZH → Prop} : zT d 105 4 L st h Q = zX (some ((1, 1, 0, 0, []), 5)) d 105 L st h Q := zT_eq rfl
theorem zt_105_5 {d : Nat} {L : ZL} {st : List ZV} {h : ZH} {Q : Option ZV → ZH → Prop} : zT d 105 5 L st h Q = zX (some ((0, 0, 1, 9, []), 7)) d 105 L st h Q := zT_eq rfl
theorem zt_105_7 {d : Nat} {L : ZL} {st : List ZV} {h : ZH} {Q : Option ZV → ZH → Prop} : zT d 105 7 L st h Q = zX (some ((11, 14, 5, 0, []), 10)) d 105 L st h Q := zT_eq rfl
theorem zt_105_10 {d : Nat} {L : ZL} {st : List ZV} {h : ZH} {Q : Option ZV → ZH → Prop} : zT d 105 10 L st h Q = zX (some ((0, 0, 0, -1, []), 11)) d 105 L st h Q := zT_eq rfl
theorem zt_105_11 {d : Nat} {L : ZL} {st : List ZV} {h : ZH} {Q : Option ZV → ZH → Prop} : zT d 105 11 L st h Q = zX (some ((13, 20, 0, 0, []), 14)) d 105 L st h Q := zT_eq rfl
theorem zt_105_14 {d : Nat} {L : ZL} {st : List ZV} {h : ZH} {Q : Option ZV → ZH → Prop} : zT d 105 14 L st h Q = zX (some ((2, 0, 0, 0, []), 15)) d 105 L st h Q := zT_eq rfl
theorem zt_105_15 {d : Nat} {L : ZL} {st : List ZV} {h : ZH} {Q : Option ZV → ZH → Prop} : zT d 105 15 L st h Q = zX (some ((21, 6, 25, 74, [0]), 18)) d 105 L st h Q := zT_eq rfl
theorem zt_105_18 {d : Nat} {L : ZL} {st : List ZV} {h : ZH} {Q : Option ZV → ZH → Prop} : zT d 105 18 L st h Q = zX (some ((1, 1, 0, 0, []), 19)) d 105 L st h Q := zT_eq rfl
theorem zt_105_19 {d : Nat} {L : ZL} {st : List ZV} {h : ZH} {Q : Option ZV → ZH → Prop} : zT d 105 19 L st h Q = zX (some ((24, 0, 0, 0, []), 20)) d 105 L st h Q := zT_eq rfl
theorem zt_105_20 {d : Nat} {L : ZL} {st : List ZV} {h : ZH} {Q : Option ZV → ZH → Prop} : zT d 105 20 L st h Q = zX (some ((51, 0, 0, 0, []), 21)) d 105 L st h Q := zT_eq rfl
theorem zt_106_0 {d : Nat} {L : ZL} {st : List ZV} {h : ZH} {Q : Option ZV → ZH → Prop} : zT d 106 0 L st h Q = zX (some ((1, 1, 0, 0, []), 1)) d 106 L st h Q := zT_eq rfl
theorem zt_106_1 {d : Nat} {L : ZL} {st : List ZV} {h : ZH} {Q : Option ZV → ZH → Prop} : zT d 106 1 L st h Q = zX (some ((12, 9, 2, 0, []), 4)) d 106 L st h Q := zT_eq rfl
theorem zt_106_4 {d : Nat} {L : ZL} {st : List ZV} {h : ZH} {Q : Option ZV → ZH → Prop} : zT d 106 4 L st h Q = zX (some ((1, 1, 0, 0, []), 5)) d 106 L st h Q := zT_eq rfl
theorem zt_106_5 {d : Nat} {L : ZL} {st : List ZV} {h : ZH} {Q : Option ZV → ZH → Prop} : zT d 106 5 L st h Q = zX (some ((0, 0, 0, 4, []), 6)) d 106 L st h Q := zT_eq rfl
theorem zt_106_6 {d : Nat} {L : ZL} {st : List ZV} {h : ZH} {Q : Option ZV → ZH → Prop} : zT d 106 6 L st h Q = zX (some ((11, 13, 5, 0, []), 9)) d 106 L st h Q := zT_eq rfl
theorem zt_106_9 {d : Nat} {L : ZL} {st : List ZV} {h : ZH} {Q : Option ZV → ZH → Prop} : zT d 106 9 L st h Q = zX (some ((0, 0, 0, -1, []), 10)) d 106 L st h Q := zT_eq rfl
theorem zt_106_10 {d : Nat} {L : ZL} {st : List ZV} {h : ZH} {Q : Option ZV → ZH → Prop} : zT d 106 10 L st h Q = zX (some ((13, 18, 0, 0, []), 13)) d 106 L st h Q := zT_eq rfl
theorem zt_106_13 {d : Nat} {L : ZL} {st : List ZV} {h : ZH} {Q : Option ZV → ZH → Prop} : zT d 106 13 L st h Q = zX (some ((2, 0, 0, 0, []), 14)) d 106 L st h Q := zT_eq rfl
theorem zt_106_14 {d : Nat} {L : ZL} {st : List ZV} {h : ZH} {Q : Option ZV → ZH → Prop} : zT d 106 14 L st h Q = zX (some ((1, 1, 0, 0, []), 15)) d 106 L st h Q := zT_eq rfl
theorem zt_106_15 {d : Nat} {L : ZL} {st : List ZV} {h : ZH} {Q : Option ZV → ZH → Prop} : zT d 106 15 L st h Q = zX (some ((40, 92, 2, 186, [1, 6]), 18)) d 106 L st h Q := zT_eq rfl
theorem zt_106_18 {d : Nat} {L : ZL} {st : List ZV} {h : ZH} {Q : Option ZV → ZH → Prop} : zT d 106 18 L st h Q = zX (some ((51, 0, 0, 0, []), 19)) d 106 L st h Q := zT_eq rfl
theorem zt_107_0 {d : Nat} {L : ZL} {st : List ZV} {h : ZH} {Q : Option ZV → ZH → Prop} : zT d 107 0 L st h Q = zX (some ((2, 0, 0, 0, []), 1)) d 107 L st h Q := zT_eq rfl
theorem zt_107_1 {d : Nat} {L : ZL} {st : List ZV} {h : ZH} {Q : Option ZV → ZH → Prop} : zT d 107 1 L st h Q = zX (some ((20, 6, 20, 177, [0]), 4)) d 107 L st h Q := zT_eq rfl
theorem zt_107_4 {d : Nat} {L : ZL} {st : List ZV} {h : ZH} {Q : Option ZV → ZH → Prop} : zT d 107 4 L st h Q = zX (some ((2, 0, 0, 0, []), 5)) d 107 L st h Q := zT_eq rfl
theorem zt_107_5 {d : Nat} {L : ZL} {st : List ZV} {h : ZH} {Q : Option ZV → ZH → Prop} : zT d 107 5 L st h Q = zX (some ((20, 6, 21, 180, [0]), 8)) d 107 L st h Q := zT_eq rfl
theorem zt_107_8 {d : Nat} {L : ZL} {st : List ZV} {h : ZH} {Q : Option ZV → ZH → Prop} : zT d 107 8 L st h Q = zX (some ((6, 0, 1, 0, []), 9)) d 107 L st h Q := zT_eq rfl
theorem zt_107_9 {d : Nat} {L : ZL} {st : List ZV} {h : ZH} {Q : Option ZV → ZH → Prop} : zT d 107 9 L st h Q = zX (some ((51, 0, 0, 0, []), 10)) d 107 L st h Q := zT_eq rfl
theorem zt_108_0 {d : Nat} {L : ZL} {st : List ZV} {h : ZH} {Q : Option ZV → ZH → Prop} : zT d 108 0 L st h Q = zX (some ((2, 0, 0, 0, []), 1)) d 108 L st h Q := zT_eq rfl
theorem zt_108_1 {d : Nat} {L : ZL} {st : List ZV} {h : ZH} {Q : Option ZV → ZH → Prop} : zT d 108 1 L st h Q = zX (some ((20, 6, 33, 136, [0]), 4)) d 108 L st h Q := zT_eq rfl
theorem zt_108_4 {d : Nat} {L : ZL} {st : List ZV} {h : ZH} {Q : Option ZV → ZH → Prop} : zT d 108 4 L st h Q = zX (some ((51, 0, 0, 0, []), 5)) d 108 L st h Q := zT_eq rfl
theorem zt_109_0 {d : Nat} {L : ZL} {st : List ZV} {h : ZH} {Q : Option ZV → ZH → Prop} : zT d 109 0 L st h Q = zX (some ((31, 0, 0, 7, []), 3)) d 109 L st h Q := zT_eq rfl
theorem zt_109_3 {d : Nat} {L : ZL} {st : List ZV} {h : ZH} {Q : Option ZV → ZH → Prop} : zT d 109 3 L st h Q = zX (some ((7, 0, 0, 0, []), 4)) d 109 L st h Q := zT_eq rfl
theorem zt_109_4 {d : Nat} {L : ZL} {st : List ZV} {h : ZH} {Q : Option ZV → ZH → Prop} : zT d 109 4 L st h Q = zX (some ((40, 0, 1, 9, [2, 0]), 7)) d 109 L st h Q := zT_eq rfl
theorem zt_109_7 {d : Nat} {L : ZL} {st : List ZV} {h : ZH} {Q : Option ZV → ZH → Prop} : zT d 109 7 L st h Q = zX (some ((4, 1, 0, 0, []), 8)) d 109 L st h Q := zT_eq rfl
theorem zt_109_8 {d : Nat} {L : ZL} {st : List ZV} {h : ZH} {Q : Option ZV → ZH → Prop} : zT d 109 8 L st h Q = zX (some ((31, 6, 0, 10, []), 11)) d 109 L st h Q := zT_eq rfl
theorem zt_109_11 {d : Nat} {L : ZL} {st : List ZV} {h : ZH} {Q : Option ZV → ZH → Prop} : zT d 109 11 L st h Q = zX (some ((7, 0, 0, 0, []), 12)) d 109 L st h Q := zT_eq rfl
theorem zt_109_12 {d : Nat} {L : ZL} {st : List ZV} {h : ZH} {Q : Option ZV → ZH → Prop} : zT d 109 12 L st h Q = zX (some ((40, 65, 1, 12, [2, 6]), 15)) d 109 L st h Q := zT_eq rfl
theorem zt_109_15 {d : Nat} {L : ZL} {st : List ZV} {h : ZH} {Q : Option ZV → ZH → Prop} : zT d 109 15 L st h Q = zX (some ((4, 2, 0, 0, []), 16)) d 109 L st h Q := zT_eq rfl
theorem zt_109_16 {d : Nat} {L : ZL} {st : List ZV} {h : ZH} {Q : Option ZV → ZH → Prop} : zT d 109 16 L st h Q = zX (some ((0, 0, 0, 0, []), 17)) d 109 L st h Q := zT_eq rfl
theorem zt_109_17 {d : Nat} {L : ZL} {st : List ZV} {h : ZH} {Q : Option ZV → ZH → Prop} : zT d 109 17 L st h Q = zX (some ((3, 3, 0, 0, []), 18)) d 109 L st h Q := zT_eq rfl
theorem zt_109_18 {d : Nat} {L : ZL} {st : List ZV} {h : ZH} {Q : Option ZV → ZH → Prop} : zT d 109 18 L st h Q = zX (some ((1, 3, 0, 0, []), 19)) d 109 L st h Q := zT_eq rfl
theorem zt_109_19 {d : Nat} {L : ZL} {st : List ZV} {h : ZH} {Q : Option ZV → ZH → Prop} : zT d 109 19 L st h Q = zX (some ((2, 0, 0, 0, []), 20)) d 109 L st h Q := zT_eq rfl
theorem zt_109_20 {d : Nat} {L : ZL} {st : List ZV} {h : ZH} {Q : Option ZV → ZH → Prop} : zT d 109 20 L st h Q = zX (some ((30, 0, 0, 0, []), 21)) d 109 L st h Q := zT_eq rfl
theorem zt_109_21 {d : Nat} {L : ZL} {st : List ZV} {h : ZH} {Q : Option ZV → ZH → Prop} : zT d 109 21 L st h Q = zX (some ((0, 0, 0, 5, []), 22)) d 109 L st h Q := zT_eq rfl
theorem zt_109_22 {d : Nat} {L : ZL} {st : List ZV} {h : ZH} {Q : Option ZV → ZH → Prop} : zT d 109 22 L st h Q = zX (some ((6, 0, 1, 0, []), 23)) d 109 L st h Q := zT_eq rfl
theorem zt_109_23 {d : Nat} {L : ZL} {st : List ZV} {h : ZH} {Q : Option ZV → ZH → Prop} : zT d 109 23 L st h Q = zX (some ((11, 740, 4, 0, []), 26)) d 109 L st h Q := zT_eq rfl
theorem zt_109_26 {d : Nat} {L : ZL} {st : List ZV} {h : ZH} {Q : Option ZV → ZH → Prop} : zT d 109 26 L st h Q = zX (some ((2, 0, 0, 0, []), 27)) d 109 L st h Q := zT_eq rfl
theorem zt_109_27 {d : Nat} {L : ZL} {st : List ZV} {h : ZH} {Q : Option ZV → ZH → Prop} : zT d 109 27 L st h Q = zX (some ((1, 3, 0, 0, []), 28)) d 109 L st h Q := zT_eq rfl
theorem zt_109_28 {d : Nat} {L : ZL} {st : List ZV} {h : ZH} {Q : Option ZV → ZH → Prop} : zT d 109 28 L st h Q = zX (some ((24, 0, 0, 0, []), 29)) d 109 L st h Q := zT_eq rfl
theorem zt_109_29 {d : Nat} {L : ZL} {st : List ZV} {h : ZH} {Q : Option ZV → ZH → Prop} : zT d 109 29 L st h Q = zX (some ((0, 0, 1, 31, []), 31)) d 109 L st h Q := zT_eq rfl
theorem zt_109_31 {d : Nat} {L : ZL} {st : List ZV} {h : ZH} {Q : Option ZV → ZH → Prop} : zT d 109 31 L st h Q = zX (some ((6, 0, 4, 0, []), 32)) d 109 L st h Q := zT_eq rfl
theorem zt_109_32 {d : Nat} {L : ZL} {st : List ZV} {h : ZH} {Q : Option ZV → ZH → Prop} : zT d 109 32 L st h Q = zX (some ((16, 734, 0, 0, [128, 151, 184, 227, 296, 339, 382, 415, 438, 471, 504, 527, 550, 583, 606, 629, 662, 685, 708, 721]), 128)) d 109 L st h Q := zT_eq rfl
theorem zt_109_128 {d : Nat} {L : ZL} {st : List ZV} {h : ZH} {Q : Option ZV → ZH → Prop} : zT d 109 128 L st h Q = zX (some ((2, 1, 0, 0, []), 129)) d 109 L st h Q := zT_eq rfl
theorem zt_109_129 {d : Nat} {L : ZL} {st : List ZV} {h : ZH} {Q : Option ZV → ZH → Prop} : zT d 109 129 L st h Q = zX (some ((2, 0, 0, 0, []), 130)) d 109 L st h Q := zT_eq rfl
theorem zt_109_130 {d : Nat} {L : ZL} {st : List ZV} {h : ZH} {Q : Option ZV → ZH → Prop} : zT d 109 130 L st h Q = zX (some ((1, 3, 0, 0, []), 131)) d 109 L st h Q := zT_eq rfl
theorem zt_109_131 {d : Nat} {L : ZL} {st : List ZV} {h : ZH} {Q : Option ZV → ZH → Prop} : zT d 109 131 L st h Q = zX (some ((0, 0, 0, 1, []), 132)) d 109 L st h Q := zT_eq rfl
theorem zt_109_132 {d : Nat} {L : ZL} {st : List ZV} {h : ZH} {Q : Option ZV → ZH → Prop} : zT d 109 132 L st h Q = zX (some ((6, 0, 0, 0, []), 133)) d 109 L st h Q := zT_eq rfl
theorem zt_109_133 {d : Nat} {L : ZL} {st : List ZV} {h : ZH} {Q : Option ZV → ZH → Prop} : zT d 109 133 L st h Q = zX (some ((24, 0, 0, 0, []), 134)) d 109 L st h Q := zT_eq rfl
theorem zt_109_134 {d : Nat} {L : ZL} {st : List ZV} {h : ZH} {Q : Option ZV → ZH → Prop} : zT d 109 134 L st h Q = zX (some ((40, 1, 2, 13, [1, 0]), 137)) d 109 L st h Q := zT_eq rfl
theorem zt_109_137 {d : Nat} {L : ZL} {st : List ZV} {h : ZH} {Q : Option ZV → ZH → Prop} : zT d 109 137 L st h Q = zX (some ((2, 2, 0, 0, []), 138)) d 109 L st h Q := zT_eq rfl
theorem zt_109_138 {d : Nat} {L : ZL} {st : List ZV} {h : ZH} {Q : Option ZV → ZH → Prop} : zT d 109 138 L st h Q = zX (some ((2, 0, 0, 0, []), 139)) d 109 L st h Q := zT_eq rfl
theorem zt_109_139 {d : Nat} {L : ZL} {st : List ZV} {h : ZH} {Q : Option ZV → ZH → Prop} : zT d 109 139 L st h Q = zX (some ((1, 3, 0, 0, []), 140)) d 109 L st h Q := zT_eq rfl
theorem zt_109_140 {d : Nat} {L : ZL} {st : List ZV} {h : ZH} {Q : Option ZV → ZH → Prop} : zT d 109 140 L st h Q = zX (some ((0, 0, 0, 1, []), 141)) d 109 L st h Q := zT_eq rfl
theorem zt_109_141 {d : Nat} {L : ZL} {st : List ZV} {h : ZH} {Q : Option ZV → ZH → Prop} : zT d 109 141 L st h Q = zX (some ((6, 0, 0, 0, []), 142)) d 109 L st h Q := zT_eq rfl
theorem zt_109_142 {d : Nat} {L : ZL} {st : List ZV} {h : ZH} {Q : Option ZV → ZH → Prop} : zT d 109 142 L st h Q = zX (some ((24, 0, 0, 0, []), 143)) d 109 L st h Q := zT_eq rfl
theorem zt_109_143 {d : Nat} {L : ZL} {st : List ZV} {h : ZH} {Q : Option ZV → ZH → Prop} : zT d 109 143 L st h Q = zX (some ((40, 68, 2, 17, [1, 6]), 146)) d 109 L st h Q := zT_eq rfl
theorem zt_109_146 {d : Nat} {L : ZL} {st : List ZV} {h : ZH} {Q : Option ZV → ZH → Prop} : zT d 109 146 L st h Q = zX (some ((11, 734, 0, 0, []), 149)) d 109 L st h Q := zT_eq rfl
theorem zt_109_149 {d : Nat} {L : ZL} {st : List ZV} {h : ZH} {Q : Option ZV → ZH → Prop} : zT d 109 149 L st h Q = zX (some ((0, 0, 0, 0, []), 150)) d 109 L st h Q := zT_eq rfl
theorem zt_109_150 {d : Nat} {L : ZL} {st : List ZV} {h : ZH} {Q : Option ZV → ZH → Prop} : zT d 109 150 L st h Q = zX (some ((51, 0, 1, 0, []), 151)) d 109 L st h Q := zT_eq rfl
theorem zt_109_151 {d : Nat} {L : ZL} {st : List ZV} {h : ZH} {Q : Option ZV → ZH → Prop} : zT d 109 151 L st h Q = zX (some ((2, 1, 0, 0, []), 152)) d 109 L st h Q := zT_eq rfl
theorem zt_109_152 {d : Nat} {L : ZL} {st : List ZV} {h : ZH} {Q : Option ZV → ZH → Prop} : zT d 109 152 L st h Q = zX (some ((2, 0, 0, 0, []), 153)) d 109 L st h Q := zT_eq rfl
theorem zt_109_153 {d : Nat} {L : ZL} {st : List ZV} {h : ZH} {Q : Option ZV → ZH → Prop} : zT d 109 153 L st h Q = zX (some ((1, 3, 0, 0, []), 154)) d 109 L st h Q := zT_eq rfl
theorem zt_109_154 {d : Nat} {L : ZL} {st : List ZV} {h : ZH} {Q : Option ZV → ZH → Prop} : zT d 109 154 L st h Q = zX (some ((0, 0, 0, 1, []), 155)) d 109 L st h Q := zT_eq rfl
theorem zt_109_155 {d : Nat} {L : ZL} {st : List ZV} {h : ZH} {Q : Option ZV → ZH → Prop} : zT d 109 155 L st h Q = zX (some ((6, 0, 0, 0, []), 156)) d 109 L st h Q := zT_eq rfl
theorem zt_109_156 {d : Nat} {L : ZL} {st : List ZV} {h : ZH} {Q : Option ZV → ZH → Prop} : zT d 109 156 L st h Q = zX (some ((24, 0, 0, 0, []), 157)) d 109 L st h Q := zT_eq rfl
theorem zt_109_157 {d : Nat} {L : ZL} {st : List ZV} {h : ZH} {Q : Option ZV → ZH → Prop} : zT d 109 157 L st h Q = zX (some ((2, 0, 0, 0, []), 158)) d 109 L st h Q := zT_eq rfl
theorem zt_109_158 {d : Nat} {L : ZL} {st : List ZV} {h : ZH} {Q : Option ZV → ZH → Prop} : zT d 109 158 L st h Q = zX (some ((1, 3, 0, 0, []), 159)) d 109 L st h Q := zT_eq rfl
theorem zt_109_159 {d : Nat} {L : ZL} {st : List ZV} {h : ZH} {Q : Option ZV → ZH → Prop} : zT d 109 159 L st h Q = zX (some ((0, 0, 0, 2, []), 160)) d 109 L st h Q := zT_eq rfl
theorem zt_109_160 {d : Nat} {L : ZL} {st : List ZV} {h : ZH} {Q : Option ZV → ZH → Prop} : zT d 109 160 L st h Q = zX (some ((6, 0, 0, 0, []), 161)) d 109 L st h Q := zT_eq rfl
theorem zt_109_161 {d : Nat} {L : ZL} {st : List ZV} {h : ZH} {Q : Option ZV → ZH → Prop} : zT d 109 161 L st h Q = zX (some ((24, 0, 0, 0, []), 162)) d 109 L st h Q := zT_eq rfl
theorem zt_109_162 {d : Nat} {L : ZL} {st : List ZV} {h : ZH} {Q : Option ZV → ZH → Prop} : zT d 109 162 L st h Q = zX (some ((40, 2, 3, 18, [1, 0]), 165)) d 109 L st h Q := zT_eq rfl
theorem zt_109_165 {d : Nat} {L : ZL} {st : List ZV} {h : ZH} {Q : Option ZV → ZH → Prop} : zT d 109 165 L st h Q = zX (some ((2, 2, 0, 0, []), 166)) d 109 L st h Q := zT_eq rfl
theorem zt_109_166 {d : Nat} {L : ZL} {st : List ZV} {h : ZH} {Q : Option ZV → ZH → Prop} : zT d 109 166 L st h Q = zX (some ((2, 0, 0, 0, []), 167)) d 109 L st h Q := zT_eq rfl
theorem zt_109_167 {d : Nat} {L : ZL} {st : List ZV} {h : ZH} {Q : Option ZV → ZH → Prop} : zT d 109 167 L st h Q = zX (some ((1, 3, 0, 0, []), 168)) d 109 L st h Q := zT_eq rfl
theorem zt_109_168 {d : Nat} {L : ZL} {st : List ZV} {h : ZH} {Q : Option ZV → ZH → Prop} : zT d 109 168 L st h Q = zX (some ((0, 0, 0, 1, []), 169)) d 109 L st h Q := zT_eq rfl
theorem zt_109_169 {d : Nat} {L : ZL} {st : List ZV} {h : ZH} {Q : Option ZV → ZH → Prop} : zT d 109 169 L st h Q = zX (some ((6, 0, 0, 0, []), 170)) d 109 L st h Q := zT_eq rfl
theorem zt_109_170 {d : Nat} {L : ZL} {st : List ZV} {h : ZH} {Q : Option ZV → ZH → Prop} : zT d 109 170 L st h Q = zX (some ((24, 0, 0, 0, []), 171)) d 109 L st h Q := zT_eq rfl
theorem zt_109_171 {d : Nat} {L : ZL} {st : List ZV} {h : ZH} {Q : Option ZV → ZH → Prop} : zT d 109 171 L st h Q = zX (some ((2, 0, 0, 0, []), 172)) d 109 L st h Q := zT_eq rfl
theorem zt_109_172 {d : Nat} {L : ZL} {st : List ZV} {h : ZH} {Q : Option ZV → ZH → Prop} : zT d 109 172 L st h Q = zX (some ((1, 3, 0, 0, []), 173)) d 109 L st h Q := zT_eq rfl
theorem zt_109_173 {d : Nat} {L : ZL} {st : List ZV} {h : ZH} {Q : Option ZV → ZH → Prop} : zT d 109 173 L st h Q = zX (some ((0, 0, 0, 2, []), 174)) d 109 L st h Q := zT_eq rfl
theorem zt_109_174 {d : Nat} {L : ZL} {st : List ZV} {h : ZH} {Q : Option ZV → ZH → Prop} : zT d 109 174 L st h Q = zX (some ((6, 0, 0, 0, []), 175)) d 109 L st h Q := zT_eq rfl
theorem zt_109_175 {d : Nat} {L : ZL} {st : List ZV} {h : ZH} {Q : Option ZV → ZH → Prop} : zT d 109 175 L st h Q = zX (some ((24, 0, 0, 0, []), 176)) d 109 L st h Q := zT_eq rfl
theorem zt_109_176 {d : Nat} {L : ZL} {st : List ZV} {h : ZH} {Q : Option ZV → ZH → Prop} : zT d 109 176 L st h Q = zX (some ((40, 73, 3, 22, [1, 6]), 179)) d 109 L st h Q := zT_eq rfl
theorem zt_109_179 {d : Nat} {L : ZL} {st : List ZV} {h : ZH} {Q : Option ZV → ZH → Prop} : zT d 109 179 L st h Q = zX (some ((11, 734, 0, 0, []), 182)) d 109 L st h Q := zT_eq rfl
theorem zt_109_182 {d : Nat} {L : ZL} {st : List ZV} {h : ZH} {Q : Option ZV → ZH → Prop} : zT d 109 182 L st h Q = zX (some ((0, 0, 0, 0, []), 183)) d 109 L st h Q := zT_eq rfl
theorem zt_109_183 {d : Nat} {L : ZL} {st : List ZV} {h : ZH} {Q : Option ZV → ZH → Prop} : zT d 109 183 L st h Q = zX (some ((51, 0, 1, 0, []), 184)) d 109 L st h Q := zT_eq rfl
theorem zt_109_184 {d : Nat} {L : ZL} {st : List ZV} {h : ZH} {Q : Option ZV → ZH → Prop} : zT d 109 184 L st h Q = zX (some ((2, 1, 0, 0, []), 185)) d 109 L st h Q := zT_eq rfl
theorem zt_109_185 {d : Nat} {L : ZL} {st : List ZV} {h : ZH} {Q : Option ZV → ZH → Prop} : zT d 109 185 L st h Q = zX (some ((2, 0, 0, 0, []), 186)) d 109 L st h Q := zT_eq rfl
theorem zt_109_186 {d : Nat} {L : ZL} {st : List ZV} {h : ZH} {Q : Option ZV → ZH → Prop} : zT d 109 186 L st h Q = zX (some ((1, 3, 0, 0, []), 187)) d 109 L st h Q := zT_eq rfl
theorem zt_109_187 {d : Nat} {L : ZL} {st : List ZV} {h : ZH} {Q : Option ZV → ZH → Prop} : zT d 109 187 L st h Q = zX (some ((0, 0, 0, 1, []), 188)) d 109 L st h Q := zT_eq rfl
theorem zt_109_188 {d : Nat} {L : ZL} {st : List ZV} {h : ZH} {Q : Option ZV → ZH → Prop} : zT d 109 188 L st h Q = zX (some ((6, 0, 0, 0, []), 189)) d 109 L st h Q := zT_eq rfl
theorem zt_109_189 {d : Nat} {L : ZL} {st : List ZV} {h : ZH} {Q : Option ZV → ZH → Prop} : zT d 109 189 L st h Q = zX (some ((24, 0, 0, 0, []), 190)) d 109 L st h Q := zT_eq rfl
theorem zt_109_190 {d : Nat} {L : ZL} {st : List ZV} {h : ZH} {Q : Option ZV → ZH → Prop} : zT d 109 190 L st h Q = zX (some ((2, 0, 0, 0, []), 191)) d 109 L st h Q := zT_eq rfl
theorem zt_109_191 {d : Nat} {L : ZL} {st : List ZV} {h : ZH} {Q : Option ZV → ZH → Prop} : zT d 109 191 L st h Q = zX (some ((1, 3, 0, 0, []), 192)) d 109 L st h Q := zT_eq rfl
theorem zt_109_192 {d : Nat} {L : ZL} {st : List ZV} {h : ZH} {Q : Option ZV → ZH → Prop} : zT d 109 192 L st h Q = zX (some ((0, 0, 0, 2, []), 193)) d 109 L st h Q := zT_eq rfl
theorem zt_109_193 {d : Nat} {L : ZL} {st : List ZV} {h : ZH} {Q : Option ZV → ZH → Prop} : zT d 109 193 L st h Q = zX (some ((6, 0, 0, 0, []), 194)) d 109 L st h Q := zT_eq rfl
theorem zt_109_194 {d : Nat} {L : ZL} {st : List ZV} {h : ZH} {Q : Option ZV → ZH → Prop} : zT d 109 194 L st h Q = zX (some ((24, 0, 0, 0, []), 195)) d 109 L st h Q := zT_eq rfl
theorem zt_109_195 {d : Nat} {L : ZL} {st : List ZV} {h : ZH} {Q : Option ZV → ZH → Prop} : zT d 109 195 L st h Q = zX (some ((2, 0, 0, 0, []), 196)) d 109 L st h Q := zT_eq rfl
theorem zt_109_196 {d : Nat} {L : ZL} {st : List ZV} {h : ZH} {Q : Option ZV → ZH → Prop} : zT d 109 196 L st h Q = zX (some ((1, 3, 0, 0, []), 197)) d 109 L st h Q := zT_eq rfl
theorem zt_109_197 {d : Nat} {L : ZL} {st : List ZV} {h : ZH} {Q : Option ZV → ZH → Prop} : zT d 109 197 L st h Q = zX (some ((0, 0, 0, 3, []), 198)) d 109 L st h Q := zT_eq rfl
theorem zt_109_198 {d : Nat} {L : ZL} {st : List ZV} {h : ZH} {Q : Option ZV → ZH → Prop} : zT d 109 198 L st h Q = zX (some ((6, 0, 0, 0, []), 199)) d 109 L st h Q := zT_eq rfl
theorem zt_109_199 {d : Nat} {L : ZL} {st : List ZV} {h : ZH} {Q : Option ZV → ZH → Prop} : zT d 109 199 L st h Q = zX (some ((24, 0, 0, 0, []), 200)) d 109 L st h Q := zT_eq rfl
theorem zt_109_200 {d : Nat} {L : ZL} {st : List ZV} {h : ZH} {Q : Option ZV → ZH → Prop} : zT d 109 200 L st h Q = zX (some ((40, 3, 4, 23, [1, 0]), 203)) d 109 L st h Q := zT_eq rfl
theorem zt_109_203 {d : Nat} {L : ZL} {st : List ZV} {h : ZH} {Q : Option ZV → ZH → Prop} : zT d 109 203 L st h Q = zX (some ((2, 2, 0, 0, []), 204)) d 109 L st h Q := zT_eq rfl
theorem zt_109_204 {d : Nat} {L : ZL} {st : List ZV} {h : ZH} {Q : Option ZV → ZH → Prop} : zT d 109 204 L st h Q = zX (some ((2, 0, 0, 0, []), 205)) d 109 L st h Q := zT_eq rfl
theorem zt_109_205 {d : Nat} {L : ZL} {st : List ZV} {h : ZH} {Q : Option ZV → ZH → Prop} : zT d 109 205 L st h Q = zX (some ((1, 3, 0, 0, []), 206)) d 109 L st h Q := zT_eq rfl
theorem zt_109_206 {d : Nat} {L : ZL} {st : List ZV} {h : ZH} {Q : Option ZV → ZH → Prop} : zT d 109 206 L st h Q = zX (some ((0, 0, 0, 1, []), 207)) d 109 L st h Q := zT_eq rfl
theorem zt_109_207 {d : Nat} {L : ZL} {st : List ZV} {h : ZH} {Q : Option ZV → ZH → Prop} : zT d 109 207 L st h Q = zX (some ((6, 0, 0, 0, []), 208)) d 109 L st h Q := zT_eq rfl
theorem zt_109_208 {d : Nat} {L : ZL} {st : List ZV} {h : ZH} {Q : Option ZV → ZH → Prop} : zT d 109 208 L st h Q = zX (some ((24, 0, 0, 0, []), 209)) d 109 L st h Q := zT_eq rfl
theorem zt_109_209 {d : Nat} {L : ZL} {st : List ZV} {h : ZH} {Q : Option ZV → ZH → Prop} : zT d 109 209 L st h Q = zX (some ((2, 0, 0, 0, []), 210)) d 109 L st h Q := zT_eq rfl
theorem zt_109_210 {d : Nat} {L : ZL} {st : List ZV} {h : ZH} {Q : Option ZV → ZH → Prop} : zT d 109 210 L st h Q = zX (some ((1, 3, 0, 0, []), 211)) d 109 L st h Q := zT_eq rfl
theorem zt_109_211 {d : Nat} {L : ZL} {st : List ZV} {h : ZH} {Q : Option ZV → ZH → Prop} : zT d 109 211 L st h Q = zX (some ((0, 0, 0, 2, []), 212)) d 109 L st h Q := zT_eq rfl
theorem zt_109_212 {d : Nat} {L : ZL} {st : List ZV} {h : ZH} {Q : Option ZV → ZH → Prop} : zT d 109 212 L st h Q = zX (some ((6, 0, 0, 0, []), 213)) d 109 L st h Q := zT_eq rfl
theorem zt_109_213 {d : Nat} {L : ZL} {st : List ZV} {h : ZH} {Q : Option ZV → ZH → Prop} : zT d 109 213 L st h Q = zX (some ((24, 0, 0, 0, []), 214)) d 109 L st h Q := zT_eq rfl
theorem zt_109_214 {d : Nat} {L : ZL} {st : List ZV} {h : ZH} {Q : Option ZV → ZH → Prop} : zT d 109 214 L st h Q = zX (some ((2, 0, 0, 0, []), 215)) d 109 L st h Q := zT_eq rfl
theorem zt_109_215 {d : Nat} {L : ZL} {st : List ZV} {h : ZH} {Q : Option ZV → ZH → Prop} : zT d 109 215 L st h Q = zX (some ((1, 3, 0, 0, []), 216)) d 109 L st h Q := zT_eq rfl
theorem zt_109_216 {d : Nat} {L : ZL} {st : List ZV} {h : ZH} {Q : Option ZV → ZH → Prop} : zT d 109 216 L st h Q = zX (some ((0, 0, 0, 3, []), 217)) d 109 L st h Q := zT_eq rfl
theorem zt_109_217 {d : Nat} {L : ZL} {st : List ZV} {h : ZH} {Q : Option ZV → ZH → Prop} : zT d 109 217 L st h Q = zX (some ((6, 0, 0, 0, []), 218)) d 109 L st h Q := zT_eq rfl
theorem zt_109_218 {d : Nat} {L : ZL} {st : List ZV} {h : ZH} {Q : Option ZV → ZH → Prop} : zT d 109 218 L st h Q = zX (some ((24, 0, 0, 0, []), 219)) d 109 L st h Q := zT_eq rfl
theorem zt_109_219 {d : Nat} {L : ZL} {st : List ZV} {h : ZH} {Q : Option ZV → ZH → Prop} : zT d 109 219 L st h Q = zX (some ((40, 74, 4, 27, [1, 6]), 222)) d 109 L st h Q := zT_eq rfl
theorem zt_109_222 {d : Nat} {L : ZL} {st : List ZV} {h : ZH} {Q : Option ZV → ZH → Prop} : zT d 109 222 L st h Q = zX (some ((11, 734, 0, 0, []), 225)) d 109 L st h Q := zT_eq rfl
theorem zt_109_225 {d : Nat} {L : ZL} {st : List ZV} {h : ZH} {Q : Option ZV → ZH → Prop} : zT d 109 225 L st h Q = zX (some ((0, 0, 0, 0, []), 226)) d 109 L st h Q := zT_eq rfl
theorem zt_109_226 {d : Nat} {L : ZL} {st : List ZV} {h : ZH} {Q : Option ZV → ZH → Prop} : zT d 109 226 L st h Q = zX (some ((51, 0, 1, 0, []), 227)) d 109 L st h Q := zT_eq rfl
theorem zt_109_227 {d : Nat} {L : ZL} {st : List ZV} {h : ZH} {Q : Option ZV → ZH → Prop} : zT d 109 227 L st h Q = zX (some ((2, 1, 0, 0, []), 228)) d 109 L st h Q := zT_eq rfl
theorem zt_109_228 {d : Nat} {L : ZL} {st : List ZV} {h : ZH} {Q : Option ZV → ZH → Prop} : zT d 109 228 L st h Q = zX (some ((2, 0, 0, 0, []), 229)) d 109 L st h Q := zT_eq rfl
theorem zt_109_229 {d : Nat} {L : ZL} {st : List ZV} {h : ZH} {Q : Option ZV → ZH → Prop} : zT d 109 229 L st h Q = zX (some ((1, 3, 0, 0, []), 230)) d 109 L st h Q := zT_eq rfl
theorem zt_109_230 {d : Nat} {L : ZL} {st : List ZV} {h : ZH} {Q : Option ZV → ZH → Prop} : zT d 109 230 L st h Q = zX (some ((0, 0, 0, 1, []), 231)) d 109 L st h Q := zT_eq rfl
theorem zt_109_231 {d : Nat} {L : ZL} {st : List ZV} {h : ZH} {Q : Option ZV → ZH → Prop} : zT d 109 231 L st h Q = zX (some ((6, 0, 0, 0, []), 232)) d 109 L st h Q := zT_eq rfl
theorem zt_109_232 {d : Nat} {L : ZL} {st : List ZV} {h : ZH} {Q : Option ZV → ZH → Prop} : zT d 109 232 L st h Q = zX (some ((24, 0, 0, 0, []), 233)) d 109 L st h Q := zT_eq rfl
theorem zt_109_233 {d : Nat} {L : ZL} {st : List ZV} {h : ZH} {Q : Option ZV → ZH → Prop} : zT d 109 233 L st h Q = zX (some ((2, 0, 0, 0, []), 234)) d 109 L st h Q := zT_eq rfl
theorem zt_109_234 {d : Nat} {L : ZL} {st : List ZV} {h : ZH} {Q : Option ZV → ZH → Prop} : zT d 109 234 L st h Q = zX (some ((1, 3, 0, 0, []), 235)) d 109 L st h Q := zT_eq rfl
theorem zt_109_235 {d : Nat} {L : ZL} {st : List ZV} {h : ZH} {Q : Option ZV → ZH → Prop} : zT d 109 235 L st h Q = zX (some ((0, 0, 0, 2, []), 236)) d 109 L st h Q := zT_eq rfl
theorem zt_109_236 {d : Nat} {L : ZL} {st : List ZV} {h : ZH} {Q : Option ZV → ZH → Prop} : zT d 109 236 L st h Q = zX (some ((6, 0, 0, 0, []), 237)) d 109 L st h Q := zT_eq rfl
theorem zt_109_237 {d : Nat} {L : ZL} {st : List ZV} {h : ZH} {Q : Option ZV → ZH → Prop} : zT d 109 237 L st h Q = zX (some ((24, 0, 0, 0, []), 238)) d 109 L st h Q := zT_eq rfl
theorem zt_109_238 {d : Nat} {L : ZL} {st : List ZV} {h : ZH} {Q : Option ZV → ZH → Prop} : zT d 109 238 L st h Q = zX (some ((2, 0, 0, 0, []), 239)) d 109 L st h Q := zT_eq rfl
theorem zt_109_239 {d : Nat} {L : ZL} {st : List ZV} {h : ZH} {Q : Option ZV → ZH → Prop} : zT d 109 239 L st h Q = zX (some ((1, 3, 0, 0, []), 240)) d 109 L st h Q := zT_eq rfl
theorem zt_109_240 {d : Nat} {L : ZL} {st : List ZV} {h : ZH} {Q : Option ZV → ZH → Prop} : zT d 109 240 L st h Q = zX (some ((0, 0, 0, 3, []), 241)) d 109 L st h Q := zT_eq rfl
theorem zt_109_241 {d : Nat} {L : ZL} {st : List ZV} {h : ZH} {Q : Option ZV → ZH → Prop} : zT d 109 241 L st h Q = zX (some ((6, 0, 0, 0, []), 242)) d 109 L st h Q := zT_eq rfl
theorem zt_109_242 {d : Nat} {L : ZL} {st : List ZV} {h : ZH} {Q : Option ZV → ZH → Prop} : zT d 109 242 L st h Q = zX (some ((24, 0, 0, 0, []), 243)) d 109 L st h Q := zT_eq rfl
theorem zt_109_243 {d : Nat} {L : ZL} {st : List ZV} {h : ZH} {Q : Option ZV → ZH → Prop} : zT d 109 243 L st h Q = zX (some ((2, 0, 0, 0, []), 244)) d 109 L st h Q := zT_eq rfl
theorem zt_109_244 {d : Nat} {L : ZL} {st : List ZV} {h : ZH} {Q : Option ZV → ZH → Prop} : zT d 109 244 L st h Q = zX (some ((1, 3, 0, 0, []), 245)) d 109 L st h Q := zT_eq rfl
theorem zt_109_245 {d : Nat} {L : ZL} {st : List ZV} {h : ZH} {Q : Option ZV → ZH → Prop} : zT d 109 245 L st h Q = zX (some ((0, 0, 0, 4, []), 246)) d 109 L st h Q := zT_eq rfl
theorem zt_109_246 {d : Nat} {L : ZL} {st : List ZV} {h : ZH} {Q : Option ZV → ZH → Prop} : zT d 109 246 L st h Q = zX (some ((6, 0, 0, 0, []), 247)) d 109 L st h Q := zT_eq rfl
theorem zt_109_247 {d : Nat} {L : ZL} {st : List ZV} {h : ZH} {Q : Option ZV → ZH → Prop} : zT d 109 247 L st h Q = zX (some ((24, 0, 0, 0, []), 248)) d 109 L st h Q := zT_eq rfl
theorem zt_109_248 {d : Nat} {L : ZL} {st : List ZV} {h : ZH} {Q : Option ZV → ZH → Prop} : zT d 109 248 L st h Q = zX (some ((12, 255, 0, 0, []), 251)) d 109 L st h Q := zT_eq rfl
theorem zt_109_251 {d : Nat} {L : ZL} {st : List ZV} {h : ZH} {Q : Option ZV → ZH → Prop} : zT d 109 251 L st h Q = zX (some ((0, 0, 0, 1, []), 252)) d 109 L st h Q := zT_eq rfl
theorem zt_109_252 {d : Nat} {L : ZL} {st : List ZV} {h : ZH} {Q : Option ZV → ZH → Prop} : zT d 109 252 L st h Q = zX (some ((13, 256, 0, 0, []), 255)) d 109 L st h Q := zT_eq rfl
theorem zt_109_255 {d : Nat} {L : ZL} {st : List ZV} {h : ZH} {Q : Option ZV → ZH → Prop} : zT d 109 255 L st h Q = zX (some ((0, 0, 0, 0, []), 256)) d 109 L st h Q := zT_eq rfl
theorem zt_109_256 {d : Nat} {L : ZL} {st : List ZV} {h : ZH} {Q : Option ZV → ZH → Prop} : zT d 109 256 L st h Q = zX (some ((40, 4, 5, 28, [1, 0]), 259)) d 109 L st h Q := zT_eq rfl
theorem zt_109_259 {d : Nat} {L : ZL} {st : List ZV} {h : ZH} {Q : Option ZV → ZH → Prop} : zT d 109 259 L st h Q = zX (some ((2, 2, 0, 0, []), 260)) d 109 L st h Q := zT_eq rfl
theorem zt_109_260 {d : Nat} {L : ZL} {st : List ZV} {h : ZH} {Q : Option ZV → ZH → Prop} : zT d 109 260 L st h Q = zX (some ((2, 0, 0, 0, []), 261)) d 109 L st h Q := zT_eq rfl
theorem zt_109_261 {d : Nat} {L : ZL} {st : List ZV} {h : ZH} {Q : Option ZV → ZH → Prop} : zT d 109 261 L st h Q = zX (some ((1, 3, 0, 0, []), 262)) d 109 L st h Q := zT_eq rfl
theorem zt_109_262 {d : Nat} {L : ZL} {st : List ZV} {h : ZH} {Q : Option ZV → ZH → Prop} : zT d 109 262 L st h Q = zX (some ((0, 0, 0, 1, []), 263)) d 109 L st h Q := zT_eq rfl
theorem zt_109_263 {d : Nat} {L : ZL} {st : List ZV} {h : ZH} {Q : Option ZV → ZH → Prop} : zT d 109 263 L st h Q = zX (some ((6, 0, 0, 0, []), 264)) d 109 L st h Q := zT_eq rfl
theorem zt_109_264 {d : Nat} {L : ZL} {st : List ZV} {h : ZH} {Q : Option ZV → ZH → Prop} : zT d 109 264 L st h Q = zX (some ((24, 0, 0, 0, []), 265)) d 109 L st h Q := zT_eq rfl
theorem zt_109_265 {d : Nat} {L : ZL} {st : List ZV} {h : ZH} {Q : Option ZV → ZH → Prop} : zT d 109 265 L st h Q = zX (some ((2, 0, 0, 0, []), 266)) d 109 L st h Q := zT_eq rfl
theorem zt_109_266 {d : Nat} {L : ZL} {st : List ZV} {h : ZH} {Q : Option ZV → ZH → Prop} : zT d 109 266 L st h Q = zX (some ((1, 3, 0, 0, []), 267)) d 109 L st h Q := zT_eq rfl
theorem zt_109_267 {d : Nat} {L : ZL} {st : List ZV} {h : ZH} {Q : Option ZV → ZH → Prop} : zT d 109 267 L st h Q = zX (some ((0, 0, 0, 2, []), 268)) d 109 L st h Q := zT_eq rfl
theorem zt_109_268 {d : Nat} {L : ZL} {st : List ZV} {h : ZH} {Q : Option ZV → ZH → Prop} : zT d 109 268 L st h Q = zX (some ((6, 0, 0, 0, []), 269)) d 109 L st h Q := zT_eq rfl
theorem zt_109_269 {d : Nat} {L : ZL} {st : List ZV} {h : ZH} {Q : Option ZV → ZH → Prop} : zT d 109 269 L st h Q = zX (some ((24, 0, 0, 0, []), 270)) d 109 L st h Q := zT_eq rfl
theorem zt_109_270 {d : Nat} {L : ZL} {st : List ZV} {h : ZH} {Q : Option ZV → ZH → Prop} : zT d 109 270 L st h Q = zX (some ((2, 0, 0, 0, []), 271)) d 109 L st h Q := zT_eq rfl
theorem zt_109_271 {d : Nat} {L : ZL} {st : List ZV} {h : ZH} {Q : Option ZV → ZH → Prop} : zT d 109 271 L st h Q = zX (some ((1, 3, 0, 0, []), 272)) d 109 L st h Q := zT_eq rfl
theorem zt_109_272 {d : Nat} {L : ZL} {st : List ZV} {h : ZH} {Q : Option ZV → ZH → Prop} : zT d 109 272 L st h Q = zX (some ((0, 0, 0, 3, []), 273)) d 109 L st h Q := zT_eq rfl
theorem zt_109_273 {d : Nat} {L : ZL} {st : List ZV} {h : ZH} {Q : Option ZV → ZH → Prop} : zT d 109 273 L st h Q = zX (some ((6, 0, 0, 0, []), 274)) d 109 L st h Q := zT_eq rfl
theorem zt_109_274 {d : Nat} {L : ZL} {st : List ZV} {h : ZH} {Q : Option ZV → ZH → Prop} : zT d 109 274 L st h Q = zX (some ((24, 0, 0, 0, []), 275)) d 109 L st h Q := zT_eq rfl
theorem zt_109_275 {d : Nat} {L : ZL} {st : List ZV} {h : ZH} {Q : Option ZV → ZH → Prop} : zT d 109 275 L st h Q = zX (some ((2, 0, 0, 0, []), 276)) d 109 L st h Q := zT_eq rfl
theorem zt_109_276 {d : Nat} {L : ZL} {st : List ZV} {h : ZH} {Q : Option ZV → ZH → Prop} : zT d 109 276 L st h Q = zX (some ((1, 3, 0, 0, []), 277)) d 109 L st h Q := zT_eq rfl
theorem zt_109_277 {d : Nat} {L : ZL} {st : List ZV} {h : ZH} {Q : Option ZV → ZH → Prop} : zT d 109 277 L st h Q = zX (some ((0, 0, 0, 4, []), 278)) d 109 L st h Q := zT_eq rfl
theorem zt_109_278 {d : Nat} {L : ZL} {st : List ZV} {h : ZH} {Q : Option ZV → ZH → Prop} : zT d 109 278 L st h Q = zX (some ((6, 0, 0, 0, []), 279)) d 109 L st h Q := zT_eq rfl
theorem zt_109_279 {d : Nat} {L : ZL} {st : List ZV} {h : ZH} {Q : Option ZV → ZH → Prop} : zT d 109 279 L st h Q = zX (some ((24, 0, 0, 0, []), 280)) d 109 L st h Q := zT_eq rfl
theorem zt_109_280 {d : Nat} {L : ZL} {st : List ZV} {h : ZH} {Q : Option ZV → ZH → Prop} : zT d 109 280 L st h Q = zX (some ((12, 287, 0, 0, []), 283)) d 109 L st h Q := zT_eq rfl
theorem zt_109_283 {d : Nat} {L : ZL} {st : List ZV} {h : ZH} {Q : Option ZV → ZH → Prop} : zT d 109 283 L st h Q = zX (some ((0, 0, 0, 1, []), 284)) d 109 L st h Q := zT_eq rfl
theorem zt_109_284 {d : Nat} {L : ZL} {st : List ZV} {h : ZH} {Q : Option ZV → ZH → Prop} : zT d 109 284 L st h Q = zX (some ((13, 288, 0, 0, []), 287)) d 109 L st h Q := zT_eq rfl
theorem zt_109_287 {d : Nat} {L : ZL} {st : List ZV} {h : ZH} {Q : Option ZV → ZH → Prop} : zT d 109 287 L st h Q = zX (some ((0, 0, 0, 0, []), 288)) d 109 L st h Q := zT_eq rfl
theorem zt_109_288 {d : Nat} {L : ZL} {st : List ZV} {h : ZH} {Q : Option ZV → ZH → Prop} : zT d 109 288 L st h Q = zX (some ((40, 75, 5, 32, [1, 6]), 291)) d 109 L st h Q := zT_eq rfl
theorem zt_109_291 {d : Nat} {L : ZL} {st : List ZV} {h : ZH} {Q : Option ZV → ZH → Prop} : zT d 109 291 L st h Q = zX (some ((11, 734, 0, 0, []), 294)) d 109 L st h Q := zT_eq rfl
theorem zt_109_294 {d : Nat} {L : ZL} {st : List ZV} {h : ZH} {Q : Option ZV → ZH → Prop} : zT d 109 294 L st h Q = zX (some ((0, 0, 0, 0, []), 295)) d 109 L st h Q := zT_eq rfl
theorem zt_109_295 {d : Nat} {L : ZL} {st : List ZV} {h : ZH} {Q : Option ZV → ZH → Prop} : zT d 109 295 L st h Q = zX (some ((51, 0, 1, 0, []), 296)) d 109 L st h Q := zT_eq rfl
theorem zt_109_296 {d : Nat} {L : ZL} {st : List ZV} {h : ZH} {Q : Option ZV → ZH → Prop} : zT d 109 296 L st h Q = zX (some ((2, 1, 0, 0, []), 297)) d 109 L st h Q := zT_eq rfl
theorem zt_109_297 {d : Nat} {L : ZL} {st : List ZV} {h : ZH} {Q : Option ZV → ZH → Prop} : zT d 109 297 L st h Q = zX (some ((2, 0, 0, 0, []), 298)) d 109 L st h Q := zT_eq rfl
theorem zt_109_298 {d : Nat} {L : ZL} {st : List ZV} {h : ZH} {Q : Option ZV → ZH → Prop} : zT d 109 298 L st h Q = zX (some ((1, 3, 0, 0, []), 299)) d 109 L st h Q := zT_eq rfl
theorem zt_109_299 {d : Nat} {L : ZL} {st : List ZV} {h : ZH} {Q : Option ZV → ZH → Prop} : zT d 109 299 L st h Q = zX (some ((0, 0, 0, 1, []), 300)) d 109 L st h Q := zT_eq rfl
theorem zt_109_300 {d : Nat} {L : ZL} {st : List ZV} {h : ZH} {Q : Option ZV → ZH → Prop} : zT d 109 300 L st h Q = zX (some ((6, 0, 0, 0, []), 301)) d 109 L st h Q := zT_eq rfl
theorem zt_109_301 {d : Nat} {L : ZL} {st : List ZV} {h : ZH} {Q : Option ZV → ZH → Prop} : zT d 109 301 L st h Q = zX (some ((24, 0, 0, 0, []), 302)) d 109 L st h Q := zT_eq rfl
theorem zt_109_302 {d : Nat} {L : ZL} {st : List ZV} {h : ZH} {Q : Option ZV → ZH → Prop} : zT d 109 302 L st h Q = zX (some ((2, 0, 0, 0, []), 303)) d 109 L st h Q := zT_eq rfl
theorem zt_109_303 {d : Nat} {L : ZL} {st : List ZV} {h : ZH} {Q : Option ZV → ZH → Prop} : zT d 109 303 L st h Q = zX (some ((1, 3, 0, 0, []), 304)) d 109 L st h Q := zT_eq rfl
theorem zt_109_304 {d : Nat} {L : ZL} {st : List ZV} {h : ZH} {Q : Option ZV → ZH → Prop} : zT d 109 304 L st h Q = zX (some ((0, 0, 0, 2, []), 305)) d 109 L st h Q := zT_eq rfl
theorem zt_109_305 {d : Nat} {L : ZL} {st : List ZV} {h : ZH} {Q : Option ZV → ZH → Prop} : zT d 109 305 L st h Q = zX (some ((6, 0, 0, 0, []), 306)) d 109 L st h Q := zT_eq rfl
theorem zt_109_306 {d : Nat} {L : ZL} {st : List ZV} {h : ZH} {Q : Option ZV → ZH → Prop} : zT d 109 306 L st h Q = zX (some ((24, 0, 0, 0, []), 307)) d 109 L st h Q := zT_eq rfl
theorem zt_109_307 {d : Nat} {L : ZL} {st : List ZV} {h : ZH} {Q : Option ZV → ZH → Prop} : zT d 109 307 L st h Q = zX (some ((2, 0, 0, 0, []), 308)) d 109 L st h Q := zT_eq rfl
theorem zt_109_308 {d : Nat} {L : ZL} {st : List ZV} {h : ZH} {Q : Option ZV → ZH → Prop} : zT d 109 308 L st h Q = zX (some ((1, 3, 0, 0, []), 309)) d 109 L st h Q := zT_eq rfl
theorem zt_109_309 {d : Nat} {L : ZL} {st : List ZV} {h : ZH} {Q : Option ZV → ZH → Prop} : zT d 109 309 L st h Q = zX (some ((0, 0, 0, 3, []), 310)) d 109 L st h Q := zT_eq rfl
theorem zt_109_310 {d : Nat} {L : ZL} {st : List ZV} {h : ZH} {Q : Option ZV → ZH → Prop} : zT d 109 310 L st h Q = zX (some ((6, 0, 0, 0, []), 311)) d 109 L st h Q := zT_eq rfl
theorem zt_109_311 {d : Nat} {L : ZL} {st : List ZV} {h : ZH} {Q : Option ZV → ZH → Prop} : zT d 109 311 L st h Q = zX (some ((24, 0, 0, 0, []), 312)) d 109 L st h Q := zT_eq rfl
theorem zt_109_312 {d : Nat} {L : ZL} {st : List ZV} {h : ZH} {Q : Option ZV → ZH → Prop} : zT d 109 312 L st h Q = zX (some ((40, 5, 4, 33, [1, 0]), 315)) d 109 L st h Q := zT_eq rfl
theorem zt_109_315 {d : Nat} {L : ZL} {st : List ZV} {h : ZH} {Q : Option ZV → ZH → Prop} : zT d 109 315 L st h Q = zX (some ((2, 2, 0, 0, []), 316)) d 109 L st h Q := zT_eq rfl
theorem zt_109_316 {d : Nat} {L : ZL} {st : List ZV} {h : ZH} {Q : Option ZV → ZH → Prop} : zT d 109 316 L st h Q = zX (some ((2, 0, 0, 0, []), 317)) d 109 L st h Q := zT_eq rfl
theorem zt_109_317 {d : Nat} {L : ZL} {st : List ZV} {h : ZH} {Q : Option ZV → ZH → Prop} : zT d 109 317 L st h Q = zX (some ((1, 3, 0, 0, []), 318)) d 109 L st h Q := zT_eq rfl
theorem zt_109_318 {d : Nat} {L : ZL} {st : List ZV} {h : ZH} {Q : Option ZV → ZH → Prop} : zT d 109 318 L st h Q = zX (some ((0, 0, 0, 1, []), 319)) d 109 L st h Q := zT_eq rfl
theorem zt_109_319 {d : Nat} {L : ZL} {st : List ZV} {h : ZH} {Q : Option ZV → ZH → Prop} : zT d 109 319 L st h Q = zX (some ((6, 0, 0, 0, []), 320)) d 109 L st h Q := zT_eq rfl
theorem zt_109_320 {d : Nat} {L : ZL} {st : List ZV} {h : ZH} {Q : Option ZV → ZH → Prop} : zT d 109 320 L st h Q = zX (some ((24, 0, 0, 0, []), 321)) d 109 L st h Q := zT_eq rfl
theorem zt_109_321 {d : Nat} {L : ZL} {st : List ZV} {h : ZH} {Q : Option ZV → ZH → Prop} : zT d 109 321 L st h Q = zX (some ((2, 0, 0, 0, []), 322)) d 109 L st h Q := zT_eq rfl
theorem zt_109_322 {d : Nat} {L : ZL} {st : List ZV} {h : ZH} {Q : Option ZV → ZH → Prop} : zT d 109 322 L st h Q = zX (some ((1, 3, 0, 0, []), 323)) d 109 L st h Q := zT_eq rfl
theorem zt_109_323 {d : Nat} {L : ZL} {st : List ZV} {h : ZH} {Q : Option ZV → ZH → Prop} : zT d 109 323 L st h Q = zX (some ((0, 0, 0, 2, []), 324)) d 109 L st h Q := zT_eq rfl
theorem zt_109_324 {d : Nat} {L : ZL} {st : List ZV} {h : ZH} {Q : Option ZV → ZH → Prop} : zT d 109 324 L st h Q = zX (some ((6, 0, 0, 0, []), 325)) d 109 L st h Q := zT_eq rfl
theorem zt_109_325 {d : Nat} {L : ZL} {st : List ZV} {h : ZH} {Q : Option ZV → ZH → Prop} : zT d 109 325 L st h Q = zX (some ((24, 0, 0, 0, []), 326)) d 109 L st h Q := zT_eq rfl
theorem zt_109_326 {d : Nat} {L : ZL} {st : List ZV} {h : ZH} {Q : Option ZV → ZH → Prop} : zT d 109 326 L st h Q = zX (some ((2, 0, 0, 0, []), 327)) d 109 L st h Q := zT_eq rfl
theorem zt_109_327 {d : Nat} {L : ZL} {st : List ZV} {h : ZH} {Q : Option ZV → ZH → Prop} : zT d 109 327 L st h Q = zX (some ((1, 3, 0, 0, []), 328)) d 109 L st h Q := zT_eq rfl
theorem zt_109_328 {d : Nat} {L : ZL} {st : List ZV} {h : ZH} {Q : Option ZV → ZH → Prop} : zT d 109 328 L st h Q = zX (some ((0, 0, 0, 3, []), 329)) d 109 L st h Q := zT_eq rfl
theorem zt_109_329 {d : Nat} {L : ZL} {st : List ZV} {h : ZH} {Q : Option ZV → ZH → Prop} : zT d 109 329 L st h Q = zX (some ((6, 0, 0, 0, []), 330)) d 109 L st h Q := zT_eq rfl
theorem zt_109_330 {d : Nat} {L : ZL} {st : List ZV} {h : ZH} {Q : Option ZV → ZH → Prop} : zT d 109 330 L st h Q = zX (some ((24, 0, 0, 0, []), 331)) d 109 L st h Q := zT_eq rfl
theorem zt_109_331 {d : Nat} {L : ZL} {st : List ZV} {h : ZH} {Q : Option ZV → ZH → Prop} : zT d 109 331 L st h Q = zX (some ((40, 76, 4, 36, [1, 6]), 334)) d 109 L st h Q := zT_eq rfl
theorem zt_109_334 {d : Nat} {L : ZL} {st : List ZV} {h : ZH} {Q : Option ZV → ZH → Prop} : zT d 109 334 L st h Q = zX (some ((11, 734, 0, 0, []), 337)) d 109 L st h Q := zT_eq rfl
theorem zt_109_337 {d : Nat} {L : ZL} {st : List ZV} {h : ZH} {Q : Option ZV → ZH → Prop} : zT d 109 337 L st h Q = zX (some ((0, 0, 0, 0, []), 338)) d 109 L st h Q := zT_eq rfl
theorem zt_109_338 {d : Nat} {L : ZL} {st : List ZV} {h : ZH} {Q : Option ZV → ZH → Prop} : zT d 109 338 L st h Q = zX (some ((51, 0, 1, 0, []), 339)) d 109 L st h Q := zT_eq rfl
theorem zt_109_339 {d : Nat} {L : ZL} {st : List ZV} {h : ZH} {Q : Option ZV → ZH → Prop} : zT d 109 339 L st h Q = zX (some ((2, 1, 0, 0, []), 340)) d 109 L st h Q := zT_eq rfl
theorem zt_109_340 {d : Nat} {L : ZL} {st : List ZV} {h : ZH} {Q : Option ZV → ZH → Prop} : zT d 109 340 L st h Q = zX (some ((2, 0, 0, 0, []), 341)) d 109 L st h Q := zT_eq rfl
theorem zt_109_341 {d : Nat} {L : ZL} {st : List ZV} {h : ZH} {Q : Option ZV → ZH → Prop} : zT d 109 341 L st h Q = zX (some ((1, 3, 0, 0, []), 342)) d 109 L st h Q := zT_eq rfl
theorem zt_109_342 {d : Nat} {L : ZL} {st : List ZV} {h : ZH} {Q : Option ZV → ZH → Prop} : zT d 109 342 L st h Q = zX (some ((0, 0, 0, 1, []), 343)) d 109 L st h Q := zT_eq rfl
theorem zt_109_343 {d : Nat} {L : ZL} {st : List ZV} {h : ZH} {Q : Option ZV → ZH → Prop} : zT d 109 343 L st h Q = zX (some ((6, 0, 0, 0, []), 344)) d 109 L st h Q := zT_eq rfl
theorem zt_109_344 {d : Nat} {L : ZL} {st : List ZV} {h : ZH} {Q : Option ZV → ZH → Prop} : zT d 109 344 L st h Q = zX (some ((24, 0, 0, 0, []), 345)) d 109 L st h Q := zT_eq rfl
theorem zt_109_345 {d : Nat} {L : ZL} {st : List ZV} {h : ZH} {Q : Option ZV → ZH → Prop} : zT d 109 345 L st h Q = zX (some ((2, 0, 0, 0, []), 346)) d 109 L st h Q := zT_eq rfl
theorem zt_109_346 {d : Nat} {L : ZL} {st : List ZV} {h : ZH} {Q : Option ZV → ZH → Prop} : zT d 109 346 L st h Q = zX (some ((1, 3, 0, 0, []), 347)) d 109 L st h Q := zT_eq rfl
theorem zt_109_347 {d : Nat} {L : ZL} {st : List ZV} {h : ZH} {Q : Option ZV → ZH → Prop} : zT d 109 347 L st h Q = zX (some ((0, 0, 0, 2, []), 348)) d 109 L st h Q := zT_eq rfl
theorem zt_109_348 {d : Nat} {L : ZL} {st : List ZV} {h : ZH} {Q : Option ZV → ZH → Prop} : zT d 109 348 L st h Q = zX (some ((6, 0, 0, 0, []), 349)) d 109 L st h Q := zT_eq rfl
theorem zt_109_349 {d : Nat} {L : ZL} {st : List ZV} {h : ZH} {Q : Option ZV → ZH → Prop} : zT d 109 349 L st h Q = zX (some ((24, 0, 0, 0, []), 350)) d 109 L st h Q := zT_eq rfl
theorem zt_109_350 {d : Nat} {L : ZL} {st : List ZV} {h : ZH} {Q : Option ZV → ZH → Prop} : zT d 109 350 L st h Q = zX (some ((2, 0, 0, 0, []), 351)) d 109 L st h Q := zT_eq rfl
theorem zt_109_351 {d : Nat} {L : ZL} {st : List ZV} {h : ZH} {Q : Option ZV → ZH → Prop} : zT d 109 351 L st h Q = zX (some ((1, 3, 0, 0, []), 352)) d 109 L st h Q := zT_eq rfl
theorem zt_109_352 {d : Nat} {L : ZL} {st : List ZV} {h : ZH} {Q : Option ZV → ZH → Prop} : zT d 109 352 L st h Q = zX (some ((0, 0, 0, 3, []), 353)) d 109 L st h Q := zT_eq rfl
theorem zt_109_353 {d : Nat} {L : ZL} {st : List ZV} {h : ZH} {Q : Option ZV → ZH → Prop} : zT d 109 353 L st h Q = zX (some ((6, 0, 0, 0, []), 354)) d 109 L st h Q := zT_eq rfl
theorem zt_109_354 {d : Nat} {L : ZL} {st : List ZV} {h : ZH} {Q : Option ZV → ZH → Prop} : zT d 109 354 L st h Q = zX (some ((24, 0, 0, 0, []), 355)) d 109 L st h Q := zT_eq rfl
theorem zt_109_355 {d : Nat} {L : ZL} {st : List ZV} {h : ZH} {Q : Option ZV → ZH → Prop} : zT d 109 355 L st h Q = zX (some ((40, 6, 4, 37, [1, 0]), 358)) d 109 L st h Q := zT_eq rfl
theorem zt_109_358 {d : Nat} {L : ZL} {st : List ZV} {h : ZH} {Q : Option ZV → ZH → Prop} : zT d 109 358 L st h Q = zX (some ((2, 2, 0, 0, []), 359)) d 109 L st h Q := zT_eq rfl
theorem zt_109_359 {d : Nat} {L : ZL} {st : List ZV} {h : ZH} {Q : Option ZV → ZH → Prop} : zT d 109 359 L st h Q = zX (some ((2, 0, 0, 0, []), 360)) d 109 L st h Q := zT_eq rfl
theorem zt_109_360 {d : Nat} {L : ZL} {st : List ZV} {h : ZH} {Q : Option ZV → ZH → Prop} : zT d 109 360 L st h Q = zX (some ((1, 3, 0, 0, []), 361)) d 109 L st h Q := zT_eq rfl
theorem zt_109_361 {d : Nat} {L : ZL} {st : List ZV} {h : ZH} {Q : Option ZV → ZH → Prop} : zT d 109 361 L st h Q = zX (some ((0, 0, 0, 1, []), 362)) d 109 L st h Q := zT_eq rfl
theorem zt_109_362 {d : Nat} {L : ZL} {st : List ZV} {h : ZH} {Q : Option ZV → ZH → Prop} : zT d 109 362 L st h Q = zX (some ((6, 0, 0, 0, []), 363)) d 109 L st h Q := zT_eq rfl
theorem zt_109_363 {d : Nat} {L : ZL} {st : List ZV} {h : ZH} {Q : Option ZV → ZH → Prop} : zT d 109 363 L st h Q = zX (some ((24, 0, 0, 0, []), 364)) d 109 L st h Q := zT_eq rfl
theorem zt_109_364 {d : Nat} {L : ZL} {st : List ZV} {h : ZH} {Q : Option ZV → ZH → Prop} : zT d 109 364 L st h Q = zX (some ((2, 0, 0, 0, []), 365)) d 109 L st h Q := zT_eq rfl
theorem zt_109_365 {d : Nat} {L : ZL} {st : List ZV} {h : ZH} {Q : Option ZV → ZH → Prop} : zT d 109 365 L st h Q = zX (some ((1, 3, 0, 0, []), 366)) d 109 L st h Q := zT_eq rfl
theorem zt_109_366 {d : Nat} {L : ZL} {st : List ZV} {h : ZH} {Q : Option ZV → ZH → Prop} : zT d 109 366 L st h Q = zX (some ((0, 0, 0, 2, []), 367)) d 109 L st h Q := zT_eq rfl
theorem zt_109_367 {d : Nat} {L : ZL} {st : List ZV} {h : ZH} {Q : Option ZV → ZH → Prop} : zT d 109 367 L st h Q = zX (some ((6, 0, 0, 0, []), 368)) d 109 L st h Q := zT_eq rfl
theorem zt_109_368 {d : Nat} {L : ZL} {st : List ZV} {h : ZH} {Q : Option ZV → ZH → Prop} : zT d 109 368 L st h Q = zX (some ((24, 0, 0, 0, []), 369)) d 109 L st h Q := zT_eq rfl
theorem zt_109_369 {d : Nat} {L : ZL} {st : List ZV} {h : ZH} {Q : Option ZV → ZH → Prop} : zT d 109 369 L st h Q = zX (some ((2, 0, 0, 0, []), 370)) d 109 L st h Q := zT_eq rfl
theorem zt_109_370 {d : Nat} {L : ZL} {st : List ZV} {h : ZH} {Q : Option ZV → ZH → Prop} : zT d 109 370 L st h Q = zX (some ((1, 3, 0, 0, []), 371)) d 109 L st h Q := zT_eq rfl
theorem zt_109_371 {d : Nat} {L : ZL} {st : List ZV} {h : ZH} {Q : Option ZV → ZH → Prop} : zT d 109 371 L st h Q = zX (some ((0, 0, 0, 3, []), 372)) d 109 L st h Q := zT_eq rfl
theorem zt_109_372 {d : Nat} {L : ZL} {st : List ZV} {h : ZH} {Q : Option ZV → ZH → Prop} : zT d 109 372 L st h Q = zX (some ((6, 0, 0, 0, []), 373)) d 109 L st h Q := zT_eq rfl
theorem zt_109_373 {d : Nat} {L : ZL} {st : List ZV} {h : ZH} {Q : Option ZV → ZH → Prop} : zT d 109 373 L st h Q = zX (some ((24, 0, 0, 0, []), 374)) d 109 L st h Q := zT_eq rfl
theorem zt_109_374 {d : Nat} {L : ZL} {st : List ZV} {h : ZH} {Q : Option ZV → ZH → Prop} : zT d 109 374 L st h Q = zX (some ((40, 77, 4, 40, [1, 6]), 377)) d 109 L st h Q := zT_eq rfl
theorem zt_109_377 {d : Nat} {L : ZL} {st : List ZV} {h : ZH} {Q : Option ZV → ZH → Prop} : zT d 109 377 L st h Q = zX (some ((11, 734, 0, 0, []), 380)) d 109 L st h Q := zT_eq rfl
theorem zt_109_380 {d : Nat} {L : ZL} {st : List ZV} {h : ZH} {Q : Option ZV → ZH → Prop} : zT d 109 380 L st h Q = zX (some ((0, 0, 0, 0, []), 381)) d 109 L st h Q := zT_eq rfl
theorem zt_109_381 {d : Nat} {L : ZL} {st : List ZV} {h : ZH} {Q : Option ZV → ZH → Prop} : zT d 109 381 L st h Q = zX (some ((51, 0, 1, 0, []), 382)) d 109 L st h Q := zT_eq rfl
theorem zt_109_382 {d : Nat} {L : ZL} {st : List ZV} {h : ZH} {Q : Option ZV → ZH → Prop} : zT d 109 382 L st h Q = zX (some ((2, 1, 0, 0, []), 383)) d 109 L st h Q := zT_eq rfl
theorem zt_109_383 {d : Nat} {L : ZL} {st : List ZV} {h : ZH} {Q : Option ZV → ZH → Prop} : zT d 109 383 L st h Q = zX (some ((2, 0, 0, 0, []), 384)) d 109 L st h Q := zT_eq rfl
theorem zt_109_384 {d : Nat} {L : ZL} {st : List ZV} {h : ZH} {Q : Option ZV → ZH → Prop} : zT d 109 384 L st h Q = zX (some ((1, 3, 0, 0, []), 385)) d 109 L st h Q := zT_eq rfl
theorem zt_109_385 {d : Nat} {L : ZL} {st : List ZV} {h : ZH} {Q : Option ZV → ZH → Prop} : zT d 109 385 L st h Q = zX (some ((0, 0, 0, 1, []), 386)) d 109 L st h Q := zT_eq rfl
theorem zt_109_386 {d : Nat} {L : ZL} {st : List ZV} {h : ZH} {Q : Option ZV → ZH → Prop} : zT d 109 386 L st h Q = zX (some ((6, 0, 0, 0, []), 387)) d 109 L st h Q := zT_eq rfl
theorem zt_109_387 {d : Nat} {L : ZL} {st : List ZV} {h : ZH} {Q : Option ZV → ZH → Prop} : zT d 109 387 L st h Q = zX (some ((24, 0, 0, 0, []), 388)) d 109 L st h Q := zT_eq rfl
theorem zt_109_388 {d : Nat} {L : ZL} {st : List ZV} {h : ZH} {Q : Option ZV → ZH → Prop} : zT d 109 388 L st h Q = zX (some ((2, 0, 0, 0, []), 389)) d 109 L st h Q := zT_eq rfl
theorem zt_109_389 {d : Nat} {L : ZL} {st : List ZV} {h : ZH} {Q : Option ZV → ZH → Prop} : zT d 109 389 L st h Q = zX (some ((1, 3, 0, 0, []), 390)) d 109 L st h Q := zT_eq rfl
theorem zt_109_390 {d : Nat} {L : ZL} {st : List ZV} {h : ZH} {Q : Option ZV → ZH → Prop} : zT d 109 390 L st h Q = zX (some ((0, 0, 0, 2, []), 391)) d 109 L st h Q := zT_eq rfl
theorem zt_109_391 {d : Nat} {L : ZL} {st : List ZV} {h : ZH} {Q : Option ZV → ZH → Prop} : zT d 109 391 L st h Q = zX (some ((6, 0, 0, 0, []), 392)) d 109 L st h Q := zT_eq rfl
theorem zt_109_392 {d : Nat} {L : ZL} {st : List ZV} {h : ZH} {Q : Option ZV → ZH → Prop} : zT d 109 392 L st h Q = zX (some ((24, 0, 0, 0, []), 393)) d 109 L st h Q := zT_eq rfl
theorem zt_109_393 {d : Nat} {L : ZL} {st : List ZV} {h : ZH} {Q : Option ZV → ZH → Prop} : zT d 109 393 L st h Q = zX (some ((40, 7, 3, 41, [1, 0]), 396)) d 109 L st h Q := zT_eq rfl
theorem zt_109_396 {d : Nat} {L : ZL} {st : List ZV} {h : ZH} {Q : Option ZV → ZH → Prop} : zT d 109 396 L st h Q = zX (some ((2, 2, 0, 0, []), 397)) d 109 L st h Q := zT_eq rfl
theorem zt_109_397 {d : Nat} {L : ZL} {st : List ZV} {h : ZH} {Q : Option ZV → ZH → Prop} : zT d 109 397 L st h Q = zX (some ((2, 0, 0, 0, []), 398)) d 109 L st h Q := zT_eq rfl
theorem zt_109_398 {d : Nat} {L : ZL} {st : List ZV} {h : ZH} {Q : Option ZV → ZH → Prop} : zT d 109 398 L st h Q = zX (some ((1, 3, 0, 0, []), 399)) d 109 L st h Q := zT_eq rfl
theorem zt_109_399 {d : Nat} {L : ZL} {st : List ZV} {h : ZH} {Q : Option ZV → ZH → Prop} : zT d 109 399 L st h Q = zX (some ((0, 0, 0, 1, []), 400)) d 109 L st h Q := zT_eq rfl
theorem zt_109_400 {d : Nat} {L : ZL} {st : List ZV} {h : ZH} {Q : Option ZV → ZH → Prop} : zT d 109 400 L st h Q = zX (some ((6, 0, 0, 0, []), 401)) d 109 L st h Q := zT_eq rfl
theorem zt_109_401 {d : Nat} {L : ZL} {st : List ZV} {h : ZH} {Q : Option ZV → ZH → Prop} : zT d 109 401 L st h Q = zX (some ((24, 0, 0, 0, []), 402)) d 109 L st h Q := zT_eq rfl
theorem zt_109_402 {d : Nat} {L : ZL} {st : List ZV} {h : ZH} {Q : Option ZV → ZH → Prop} : zT d 109 402 L st h Q = zX (some ((2, 0, 0, 0, []), 403)) d 109 L st h Q := zT_eq rfl
theorem zt_109_403 {d : Nat} {L : ZL} {st : List ZV} {h : ZH} {Q : Option ZV → ZH → Prop} : zT d 109 403 L st h Q = zX (some ((1, 3, 0, 0, []), 404)) d 109 L st h Q := zT_eq rfl
theorem zt_109_404 {d : Nat} {L : ZL} {st : List ZV} {h : ZH} {Q : Option ZV → ZH → Prop} : zT d 109 404 L st h Q = zX (some ((0, 0, 0, 2, []), 405)) d 109 L st h Q := zT_eq rfl
theorem zt_109_405 {d : Nat} {L : ZL} {st : List ZV} {h : ZH} {Q : Option ZV → ZH → Prop} : zT d 109 405 L st h Q = zX (some ((6, 0, 0, 0, []), 406)) d 109 L st h Q := zT_eq rfl
theorem zt_109_406 {d : Nat} {L : ZL} {st : List ZV} {h : ZH} {Q : Option ZV → ZH → Prop} : zT d 109 406 L st h Q = zX (some ((24, 0, 0, 0, []), 407)) d 109 L st h Q := zT_eq rfl
theorem zt_109_407 {d : Nat} {L : ZL} {st : List ZV} {h : ZH} {Q : Option ZV → ZH → Prop} : zT d 109 407 L st h Q = zX (some ((40, 78, 3, 44, [1, 6]), 410)) d 109 L st h Q := zT_eq rfl
theorem zt_109_410 {d : Nat} {L : ZL} {st : List ZV} {h : ZH} {Q : Option ZV → ZH → Prop} : zT d 109 410 L st h Q = zX (some ((11, 734, 0, 0, []), 413)) d 109 L st h Q := zT_eq rfl
theorem zt_109_413 {d : Nat} {L : ZL} {st : List ZV} {h : ZH} {Q : Option ZV → ZH → Prop} : zT d 109 413 L st h Q = zX (some ((0, 0, 0, 0, []), 414)) d 109 L st h Q := zT_eq rfl
theorem zt_109_414 {d : Nat} {L : ZL} {st : List ZV} {h : ZH} {Q : Option ZV → ZH → Prop} : zT d 109 414 L st h Q = zX (some ((51, 0, 1, 0, []), 415)) d 109 L st h Q := zT_eq rfl
theorem zt_109_415 {d : Nat} {L : ZL} {st : List ZV} {h : ZH} {Q : Option ZV → ZH → Prop} : zT d 109 415 L st h Q = zX (some ((2, 1, 0, 0, []), 416)) d 109 L st h Q := zT_eq rfl
theorem zt_109_416 {d : Nat} {L : ZL} {st : List ZV} {h : ZH} {Q : Option ZV → ZH → Prop} : zT d 109 416 L st h Q = zX (some ((2, 0, 0, 0, []), 417)) d 109 L st h Q := zT_eq rfl
theorem zt_109_417 {d : Nat} {L : ZL} {st : List ZV} {h : ZH} {Q : Option ZV → ZH → Prop} : zT d 109 417 L st h Q = zX (some ((1, 3, 0, 0, []), 418)) d 109 L st h Q := zT_eq rfl
theorem zt_109_418 {d : Nat} {L : ZL} {st : List ZV} {h : ZH} {Q : Option ZV → ZH → Prop} : zT d 109 418 L st h Q = zX (some ((0, 0, 0, 1, []), 419)) d 109 L st h Q := zT_eq rfl
theorem zt_109_419 {d : Nat} {L : ZL} {st : List ZV} {h : ZH} {Q : Option ZV → ZH → Prop} : zT d 109 419 L st h Q = zX (some ((6, 0, 0, 0, []), 420)) d 109 L st h Q := zT_eq rfl
theorem zt_109_420 {d : Nat} {L : ZL} {st : List ZV} {h : ZH} {Q : Option ZV → ZH → Prop} : zT d 109 420 L st h Q = zX (some ((24, 0, 0, 0, []), 421)) d 109 L st h Q := zT_eq rfl
theorem zt_109_421 {d : Nat} {L : ZL} {st : List ZV} {h : ZH} {Q : Option ZV → ZH → Prop} : zT d 109 421 L st h Q = zX (some ((40, 8, 2, 45, [1, 0]), 424)) d 109 L st h Q := zT_eq rfl
theorem zt_109_424 {d : Nat} {L : ZL} {st : List ZV} {h : ZH} {Q : Option ZV → ZH → Prop} : zT d 109 424 L st h Q = zX (some ((2, 2, 0, 0, []), 425)) d 109 L st h Q := zT_eq rfl
theorem zt_109_425 {d : Nat} {L : ZL} {st : List ZV} {h : ZH} {Q : Option ZV → ZH → Prop} : zT d 109 425 L st h Q = zX (some ((2, 0, 0, 0, []), 426)) d 109 L st h Q := zT_eq rfl
theorem zt_109_426 {d : Nat} {L : ZL} {st : List ZV} {h : ZH} {Q : Option ZV → ZH → Prop} : zT d 109 426 L st h Q = zX (some ((1, 3, 0, 0, []), 427)) d 109 L st h Q := zT_eq rfl
theorem zt_109_427 {d : Nat} {L : ZL} {st : List ZV} {h : ZH} {Q : Option ZV → ZH → Prop} : zT d 109 427 L st h Q = zX (some ((0, 0, 0, 1, []), 428)) d 109 L st h Q := zT_eq rfl
theorem zt_109_428 {d : Nat} {L : ZL} {st : List ZV} {h : ZH} {Q : Option ZV → ZH → Prop} : zT d 109 428 L st h Q = zX (some ((6, 0, 0, 0, []), 429)) d 109 L st h Q := zT_eq rfl
theorem zt_109_429 {d : Nat} {L : ZL} {st : List ZV} {h : ZH} {Q : Option ZV → ZH → Prop} : zT d 109 429 L st h Q = zX (some ((24, 0, 0, 0, []), 430)) d 109 L st h Q := zT_eq rfl
theorem zt_109_430 {d : Nat} {L : ZL} {st : List ZV} {h : ZH} {Q : Option ZV → ZH → Prop} : zT d 109 430 L st h Q = zX (some ((40, 85, 2, 48, [1, 6]), 433)) d 109 L st h Q := zT_eq rfl
theorem zt_109_433 {d : Nat} {L : ZL} {st : List ZV} {h : ZH} {Q : Option ZV → ZH → Prop} : zT d 109 433 L st h Q = zX (some ((11, 734, 0, 0, []), 436)) d 109 L st h Q := zT_eq rfl
theorem zt_109_436 {d : Nat} {L : ZL} {st : List ZV} {h : ZH} {Q : Option ZV → ZH → Prop} : zT d 109 436 L st h Q = zX (some ((0, 0, 0, 0, []), 437)) d 109 L st h Q := zT_eq rfl
theorem zt_109_437 {d : Nat} {L : ZL} {st : List ZV} {h : ZH} {Q : Option ZV → ZH → Prop} : zT d 109 437 L st h Q = zX (some ((51, 0, 1, 0, []), 438)) d 109 L st h Q := zT_eq rfl
theorem zt_109_438 {d : Nat} {L : ZL} {st : List ZV} {h : ZH} {Q : Option ZV → ZH → Prop} : zT d 109 438 L st h Q = zX (some ((2, 1, 0, 0, []), 439)) d 109 L st h Q := zT_eq rfl
theorem zt_109_439 {d : Nat} {L : ZL} {st : List ZV} {h : ZH} {Q : Option ZV → ZH → Prop} : zT d 109 439 L st h Q = zX (some ((2, 0, 0, 0, []), 440)) d 109 L st h Q := zT_eq rfl
theorem zt_109_440 {d : Nat} {L : ZL} {st : List ZV} {h : ZH} {Q : Option ZV → ZH → Prop} : zT d 109 440 L st h Q = zX (some ((1, 3, 0, 0, []), 441)) d 109 L st h Q := zT_eq rfl
theorem zt_109_441 {d : Nat} {L : ZL} {st : List ZV} {h : ZH} {Q : Option ZV → ZH → Prop} : zT d 109 441 L st h Q = zX (some ((0, 0, 0, 1, []), 442)) d 109 L st h Q := zT_eq rfl
theorem zt_109_442 {d : Nat} {L : ZL} {st : List ZV} {h : ZH} {Q : Option ZV → ZH → Prop} : zT d 109 442 L st h Q = zX (some ((6, 0, 0, 0, []), 443)) d 109 L st h Q := zT_eq rfl
theorem zt_109_443 {d : Nat} {L : ZL} {st : List ZV} {h : ZH} {Q : Option ZV → ZH → Prop} : zT d 109 443 L st h Q = zX (some ((24, 0, 0, 0, []), 444)) d 109 L st h Q := zT_eq rfl
theorem zt_109_444 {d : Nat} {L : ZL} {st : List ZV} {h : ZH} {Q : Option ZV → ZH → Prop} : zT d 109 444 L st h Q = zX (some ((2, 0, 0, 0, []), 445)) d 109 L st h Q := zT_eq rfl
theorem zt_109_445 {d : Nat} {L : ZL} {st : List ZV} {h : ZH} {Q : Option ZV → ZH → Prop} : zT d 109 445 L st h Q = zX (some ((1, 3, 0, 0, []), 446)) d 109 L st h Q := zT_eq rfl
theorem zt_109_446 {d : Nat} {L : ZL} {st : List ZV} {h : ZH} {Q : Option ZV → ZH → Prop} : zT d 109 446 L st h Q = zX (some ((0, 0, 0, 2, []), 447)) d 109 L st h Q := zT_eq rfl
theorem zt_109_447 {d : Nat} {L : ZL} {st : List ZV} {h : ZH} {Q : Option ZV → ZH → Prop} : zT d 109 447 L st h Q = zX (some ((6, 0, 0, 0, []), 448)) d 109 L st h Q := zT_eq rfl
theorem zt_109_448 {d : Nat} {L : ZL} {st : List ZV} {h : ZH} {Q : Option ZV → ZH → Prop} : zT d 109 448 L st h Q = zX (some ((24, 0, 0, 0, []), 449)) d 109 L st h Q := zT_eq rfl
theorem zt_109_449 {d : Nat} {L : ZL} {st : List ZV} {h : ZH} {Q : Option ZV → ZH → Prop} : zT d 109 449 L st h Q = zX (some ((40, 9, 3, 49, [1, 0]), 452)) d 109 L st h Q := zT_eq rfl
theorem zt_109_452 {d : Nat} {L : ZL} {st : List ZV} {h : ZH} {Q : Option ZV → ZH → Prop} : zT d 109 452 L st h Q = zX (some ((2, 2, 0, 0, []), 453)) d 109 L st h Q := zT_eq rfl
theorem zt_109_453 {d : Nat} {L : ZL} {st : List ZV} {h : ZH} {Q : Option ZV → ZH → Prop} : zT d 109 453 L st h Q = zX (some ((2, 0, 0, 0, []), 454)) d 109 L st h Q := zT_eq rfl
theorem zt_109_454 {d : Nat} {L : ZL} {st : List ZV} {h : ZH} {Q : Option ZV → ZH → Prop} : zT d 109 454 L st h Q = zX (some ((1, 3, 0, 0, []), 455)) d 109 L st h Q := zT_eq rfl
theorem zt_109_455 {d : Nat} {L : ZL} {st : List ZV} {h : ZH} {Q : Option ZV → ZH → Prop} : zT d 109 455 L st h Q = zX (some ((0, 0, 0, 1, []), 456)) d 109 L st h Q := zT_eq rfl
theorem zt_109_456 {d : Nat} {L : ZL} {st : List ZV} {h : ZH} {Q : Option ZV → ZH → Prop} : zT d 109 456 L st h Q = zX (some ((6, 0, 0, 0, []), 457)) d 109 L st h Q := zT_eq rfl
theorem zt_109_457 {d : Nat} {L : ZL} {st : List ZV} {h : ZH} {Q : Option ZV → ZH → Prop} : zT d 109 457 L st h Q = zX (some ((24, 0, 0, 0, []), 458)) d 109 L st h Q := zT_eq rfl
theorem zt_109_458 {d : Nat} {L : ZL} {st : List ZV} {h : ZH} {Q : Option ZV → ZH → Prop} : zT d 109 458 L st h Q = zX (some ((2, 0, 0, 0, []), 459)) d 109 L st h Q := zT_eq rfl
theorem zt_109_459 {d : Nat} {L : ZL} {st : List ZV} {h : ZH} {Q : Option ZV → ZH → Prop} : zT d 109 459 L st h Q = zX (some ((1, 3, 0, 0, []), 460)) d 109 L st h Q := zT_eq rfl
theorem zt_109_460 {d : Nat} {L : ZL} {st : List ZV} {h : ZH} {Q : Option ZV → ZH → Prop} : zT d 109 460 L st h Q = zX (some ((0, 0, 0, 2, []), 461)) d 109 L st h Q := zT_eq rfl
theorem zt_109_461 {d : Nat} {L : ZL} {st : List ZV} {h : ZH} {Q : Option ZV → ZH → Prop} : zT d 109 461 L st h Q = zX (some ((6, 0, 0, 0, []), 462)) d 109 L st h Q := zT_eq rfl
theorem zt_109_462 {d : Nat} {L : ZL} {st : List ZV} {h : ZH} {Q : Option ZV → ZH → Prop} : zT d 109 462 L st h Q = zX (some ((24, 0, 0, 0, []), 463)) d 109 L st h Q := zT_eq rfl
theorem zt_109_463 {d : Nat} {L : ZL} {st : List ZV} {h : ZH} {Q : Option ZV → ZH → Prop} : zT d 109 463 L st h Q = zX (some ((40, 86, 3, 52, [1, 6]), 466)) d 109 L st h Q := zT_eq rfl
theorem zt_109_466 {d : Nat} {L : ZL} {st : List ZV} {h : ZH} {Q : Option ZV → ZH → Prop} : zT d 109 466 L st h Q = zX (some ((11, 734, 0, 0, []), 469)) d 109 L st h Q := zT_eq rfl
theorem zt_109_469 {d : Nat} {L : ZL} {st : List ZV} {h : ZH} {Q : Option ZV → ZH → Prop} : zT d 109 469 L st h Q = zX (some ((0, 0, 0, 0, []), 470)) d 109 L st h Q := zT_eq rfl
theorem zt_109_470 {d : Nat} {L : ZL} {st : List ZV} {h : ZH} {Q : Option ZV → ZH → Prop} : zT d 109 470 L st h Q = zX (some ((51, 0, 1, 0, []), 471)) d 109 L st h Q := zT_eq rfl
theorem zt_109_471 {d : Nat} {L : ZL} {st : List ZV} {h : ZH} {Q : Option ZV → ZH → Prop} : zT d 109 471 L st h Q = zX (some ((2, 1, 0, 0, []), 472)) d 109 L st h Q := zT_eq rfl
theorem zt_109_472 {d : Nat} {L : ZL} {st : List ZV} {h : ZH} {Q : Option ZV → ZH → Prop} : zT d 109 472 L st h Q = zX (some ((2, 0, 0, 0, []), 473)) d 109 L st h Q := zT_eq rfl
theorem zt_109_473 {d : Nat} {L : ZL} {st : List ZV} {h : ZH} {Q : Option ZV → ZH → Prop} : zT d 109 473 L st h Q = zX (some ((1, 3, 0, 0, []), 474)) d 109 L st h Q := zT_eq rfl
theorem zt_109_474 {d : Nat} {L : ZL} {st : List ZV} {h : ZH} {Q : Option ZV → ZH → Prop} : zT d 109 474 L st h Q = zX (some ((0, 0, 0, 1, []), 475)) d 109 L st h Q := zT_eq rfl
theorem zt_109_475 {d : Nat} {L : ZL} {st : List ZV} {h : ZH} {Q : Option ZV → ZH → Prop} : zT d 109 475 L st h Q = zX (some ((6, 0, 0, 0, []), 476)) d 109 L st h Q := zT_eq rfl
theorem zt_109_476 {d : Nat} {L : ZL} {st : List ZV} {h : ZH} {Q : Option ZV → ZH → Prop} : zT d 109 476 L st h Q = zX (some ((24, 0, 0, 0, []), 477)) d 109 L st h Q := zT_eq rfl
theorem zt_109_477 {d : Nat} {L : ZL} {st : List ZV} {h : ZH} {Q : Option ZV → ZH → Prop} : zT d 109 477 L st h Q = zX (some ((2, 0, 0, 0, []), 478)) d 109 L st h Q := zT_eq rfl
theorem zt_109_478 {d : Nat} {L : ZL} {st : List ZV} {h : ZH} {Q : Option ZV → ZH → Prop} : zT d 109 478 L st h Q = zX (some ((1, 3, 0, 0, []), 479)) d 109 L st h Q := zT_eq rfl
theorem zt_109_479 {d : Nat} {L : ZL} {st : List ZV} {h : ZH} {Q : Option ZV → ZH → Prop} : zT d 109 479 L st h Q = zX (some ((0, 0, 0, 2, []), 480)) d 109 L st h Q := zT_eq rfl
theorem zt_109_480 {d : Nat} {L : ZL} {st : List ZV} {h : ZH} {Q : Option ZV → ZH → Prop} : zT d 109 480 L st h Q = zX (some ((6, 0, 0, 0, []), 481)) d 109 L st h Q := zT_eq rfl
theorem zt_109_481 {d : Nat} {L : ZL} {st : List ZV} {h : ZH} {Q : Option ZV → ZH → Prop} : zT d 109 481 L st h Q = zX (some ((24, 0, 0, 0, []), 482)) d 109 L st h Q := zT_eq rfl
theorem zt_109_482 {d : Nat} {L : ZL} {st : List ZV} {h : ZH} {Q : Option ZV → ZH → Prop} : zT d 109 482 L st h Q = zX (some ((40, 10, 3, 53, [1, 0]), 485)) d 109 L st h Q := zT_eq rfl
theorem zt_109_485 {d : Nat} {L : ZL} {st : List ZV} {h : ZH} {Q : Option ZV → ZH → Prop} : zT d 109 485 L st h Q = zX (some ((2, 2, 0, 0, []), 486)) d 109 L st h Q := zT_eq rfl
theorem zt_109_486 {d : Nat} {L : ZL} {st : List ZV} {h : ZH} {Q : Option ZV → ZH → Prop} : zT d 109 486 L st h Q = zX (some ((2, 0, 0, 0, []), 487)) d 109 L st h Q := zT_eq rfl
theorem zt_109_487 {d : Nat} {L : ZL} {st : List ZV} {h : ZH} {Q : Option ZV → ZH → Prop} : zT d 109 487 L st h Q = zX (some ((1, 3, 0, 0, []), 488)) d 109 L st h Q := zT_eq rfl
theorem zt_109_488 {d : Nat} {L : ZL} {st : List ZV} {h : ZH} {Q : Option ZV → ZH → Prop} : zT d 109 488 L st h Q = zX (some ((0, 0, 0, 1, []), 489)) d 109 L st h Q := zT_eq rfl
theorem zt_109_489 {d : Nat} {L : ZL} {st : List ZV} {h : ZH} {Q : Option ZV → ZH → Prop} : zT d 109 489 L st h Q = zX (some ((6, 0, 0, 0, []), 490)) d 109 L st h Q := zT_eq rfl
theorem zt_109_490 {d : Nat} {L : ZL} {st : List ZV} {h : ZH} {Q : Option ZV → ZH → Prop} : zT d 109 490 L st h Q = zX (some ((24, 0, 0, 0, []), 491)) d 109 L st h Q := zT_eq rfl
theorem zt_109_491 {d : Nat} {L : ZL} {st : List ZV} {h : ZH} {Q : Option ZV → ZH → Prop} : zT d 109 491 L st h Q = zX (some ((2, 0, 0, 0, []), 492)) d 109 L st h Q := zT_eq rfl
theorem zt_109_492 {d : Nat} {L : ZL} {st : List ZV} {h : ZH} {Q : Option ZV → ZH → Prop} : zT d 109 492 L st h Q = zX (some ((1, 3, 0, 0, []), 493)) d 109 L st h Q := zT_eq rfl
theorem zt_109_493 {d : Nat} {L : ZL} {st : List ZV} {h : ZH} {Q : Option ZV → ZH → Prop} : zT d 109 493 L st h Q = zX (some ((0, 0, 0, 2, []), 494)) d 109 L st h Q := zT_eq rfl
theorem zt_109_494 {d : Nat} {L : ZL} {st : List ZV} {h : ZH} {Q : Option ZV → ZH → Prop} : zT d 109 494 L st h Q = zX (some ((6, 0, 0, 0, []), 495)) d 109 L st h Q := zT_eq rfl
theorem zt_109_495 {d : Nat} {L : ZL} {st : List ZV} {h : ZH} {Q : Option ZV → ZH → Prop} : zT d 109 495 L st h Q = zX (some ((24, 0, 0, 0, []), 496)) d 109 L st h Q := zT_eq rfl
theorem zt_109_496 {d : Nat} {L : ZL} {st : List ZV} {h : ZH} {Q : Option ZV → ZH → Prop} : zT d 109 496 L st h Q = zX (some ((40, 98, 3, 56, [1, 6]), 499)) d 109 L st h Q := zT_eq rfl
theorem zt_109_499 {d : Nat} {L : ZL} {st : List ZV} {h : ZH} {Q : Option ZV → ZH → Prop} : zT d 109 499 L st h Q = zX (some ((11, 734, 0, 0, []), 502)) d 109 L st h Q := zT_eq rfl
theorem zt_109_502 {d : Nat} {L : ZL} {st : List ZV} {h : ZH} {Q : Option ZV → ZH → Prop} : zT d 109 502 L st h Q = zX (some ((0, 0, 0, 0, []), 503)) d 109 L st h Q := zT_eq rfl
theorem zt_109_503 {d : Nat} {L : ZL} {st : List ZV} {h : ZH} {Q : Option ZV → ZH → Prop} : zT d 109 503 L st h Q = zX (some ((51, 0, 1, 0, []), 504)) d 109 L st h Q := zT_eq rfl
theorem zt_109_504 {d : Nat} {L : ZL} {st : List ZV} {h : ZH} {Q : Option ZV → ZH → Prop} : zT d 109 504 L st h Q = zX (some ((2, 1, 0, 0, []), 505)) d 109 L st h Q := zT_eq rfl
theorem zt_109_505 {d : Nat} {L : ZL} {st : List ZV} {h : ZH} {Q : Option ZV → ZH → Prop} : zT d 109 505 L st h Q = zX (some ((2, 0, 0, 0, []), 506)) d 109 L st h Q := zT_eq rfl
theorem zt_109_506 {d : Nat} {L : ZL} {st : List ZV} {h : ZH} {Q : Option ZV → ZH → Prop} : zT d 109 506 L st h Q = zX (some ((1, 3, 0, 0, []), 507)) d 109 L st h Q := zT_eq rfl
theorem zt_109_507 {d : Nat} {L : ZL} {st : List ZV} {h : ZH} {Q : Option ZV → ZH → Prop} : zT d 109 507 L st h Q = zX (some ((0, 0, 0, 1, []), 508)) d 109 L st h Q := zT_eq rfl
theorem zt_109_508 {d : Nat} {L : ZL} {st : List ZV} {h : ZH} {Q : Option ZV → ZH → Prop} : zT d 109 508 L st h Q = zX (some ((6, 0, 0, 0, []), 509)) d 109 L st h Q := zT_eq rfl
theorem zt_109_509 {d : Nat} {L : ZL} {st : List ZV} {h : ZH} {Q : Option ZV → ZH → Prop} : zT d 109 509 L st h Q = zX (some ((24, 0, 0, 0, []), 510)) d 109 L st h Q := zT_eq rfl
theorem zt_109_510 {d : Nat} {L : ZL} {st : List ZV} {h : ZH} {Q : Option ZV → ZH → Prop} : zT d 109 510 L st h Q = zX (some ((40, 11, 2, 57, [1, 0]), 513)) d 109 L st h Q := zT_eq rfl
theorem zt_109_513 {d : Nat} {L : ZL} {st : List ZV} {h : ZH} {Q : Option ZV → ZH → Prop} : zT d 109 513 L st h Q = zX (some ((2, 2, 0, 0, []), 514)) d 109 L st h Q := zT_eq rfl
theorem zt_109_514 {d : Nat} {L : ZL} {st : List ZV} {h : ZH} {Q : Option ZV → ZH → Prop} : zT d 109 514 L st h Q = zX (some ((2, 0, 0, 0, []), 515)) d 109 L st h Q := zT_eq rfl
theorem zt_109_515 {d : Nat} {L : ZL} {st : List ZV} {h : ZH} {Q : Option ZV → ZH → Prop} : zT d 109 515 L st h Q = zX (some ((1, 3, 0, 0, []), 516)) d 109 L st h Q := zT_eq rfl
theorem zt_109_516 {d : Nat} {L : ZL} {st : List ZV} {h : ZH} {Q : Option ZV → ZH → Prop} : zT d 109 516 L st h Q = zX (some ((0, 0, 0, 1, []), 517)) d 109 L st h Q := zT_eq rfl
theorem zt_109_517 {d : Nat} {L : ZL} {st : List ZV} {h : ZH} {Q : Option ZV → ZH → Prop} : zT d 109 517 L st h Q = zX (some ((6, 0, 0, 0, []), 518)) d 109 L st h Q := zT_eq rfl
theorem zt_109_518 {d : Nat} {L : ZL} {st : List ZV} {h : ZH} {Q : Option ZV → ZH → Prop} : zT d 109 518 L st h Q = zX (some ((24, 0, 0, 0, []), 519)) d 109 L st h Q := zT_eq rfl
theorem zt_109_519 {d : Nat} {L : ZL} {st : List ZV} {h : ZH} {Q : Option ZV → ZH → Prop} : zT d 109 519 L st h Q = zX (some ((40, 99, 2, 60, [1, 6]), 522)) d 109 L st h Q := zT_eq rfl
theorem zt_109_522 {d : Nat} {L : ZL} {st : List ZV} {h : ZH} {Q : Option ZV → ZH → Prop} : zT d 109 522 L st h Q = zX (some ((11, 734, 0, 0, []), 525)) d 109 L st h Q := zT_eq rfl
theorem zt_109_525 {d : Nat} {L : ZL} {st : List ZV} {h : ZH} {Q : Option ZV → ZH → Prop} : zT d 109 525 L st h Q = zX (some ((0, 0, 0, 0, []), 526)) d 109 L st h Q := zT_eq rfl
theorem zt_109_526 {d : Nat} {L : ZL} {st : List ZV} {h : ZH} {Q : Option ZV → ZH → Prop} : zT d 109 526 L st h Q = zX (some ((51, 0, 1, 0, []), 527)) d 109 L st h Q := zT_eq rfl
theorem zt_109_527 {d : Nat} {L : ZL} {st : List ZV} {h : ZH} {Q : Option ZV → ZH → Prop} : zT d 109 527 L st h Q = zX (some ((2, 1, 0, 0, []), 528)) d 109 L st h Q := zT_eq rfl
theorem zt_109_528 {d : Nat} {L : ZL} {st : List ZV} {h : ZH} {Q : Option ZV → ZH → Prop} : zT d 109 528 L st h Q = zX (some ((2, 0, 0, 0, []), 529)) d 109 L st h Q := zT_eq rfl
theorem zt_109_529 {d : Nat} {L : ZL} {st : List ZV} {h : ZH} {Q : Option ZV → ZH → Prop} : zT d 109 529 L st h Q = zX (some ((1, 3, 0, 0, []), 530)) d 109 L st h Q := zT_eq rfl
theorem zt_109_530 {d : Nat} {L : ZL} {st : List ZV} {h : ZH} {Q : Option ZV → ZH → Prop} : zT d 109 530 L st h Q = zX (some ((0, 0, 0, 1, []), 531)) d 109 L st h Q := zT_eq rfl
theorem zt_109_531 {d : Nat} {L : ZL} {st : List ZV} {h : ZH} {Q : Option ZV → ZH → Prop} : zT d 109 531 L st h Q = zX (some ((6, 0, 0, 0, []), 532)) d 109 L st h Q := zT_eq rfl
theorem zt_109_532 {d : Nat} {L : ZL} {st : List ZV} {h : ZH} {Q : Option ZV → ZH → Prop} : zT d 109 532 L st h Q = zX (some ((24, 0, 0, 0, []), 533)) d 109 L st h Q := zT_eq rfl
theorem zt_109_533 {d : Nat} {L : ZL} {st : List ZV} {h : ZH} {Q : Option ZV → ZH → Prop} : zT d 109 533 L st h Q = zX (some ((40, 12, 2, 61, [1, 0]), 536)) d 109 L st h Q := zT_eq rfl
theorem zt_109_536 {d : Nat} {L : ZL} {st : List ZV} {h : ZH} {Q : Option ZV → ZH → Prop} : zT d 109 536 L st h Q = zX (some ((2, 2, 0, 0, []), 537)) d 109 L st h Q := zT_eq rfl
theorem zt_109_537 {d : Nat} {L : ZL} {st : List ZV} {h : ZH} {Q : Option ZV → ZH → Prop} : zT d 109 537 L st h Q = zX (some ((2, 0, 0, 0, []), 538)) d 109 L st h Q := zT_eq rfl
theorem zt_109_538 {d : Nat} {L : ZL} {st : List ZV} {h : ZH} {Q : Option ZV → ZH → Prop} : zT d 109 538 L st h Q = zX (some ((1, 3, 0, 0, []), 539)) d 109 L st h Q := zT_eq rfl
theorem zt_109_539 {d : Nat} {L : ZL} {st : List ZV} {h : ZH} {Q : Option ZV → ZH → Prop} : zT d 109 539 L st h Q = zX (some ((0, 0, 0, 1, []), 540)) d 109 L st h Q := zT_eq rfl
theorem zt_109_540 {d : Nat} {L : ZL} {st : List ZV} {h : ZH} {Q : Option ZV → ZH → Prop} : zT d 109 540 L st h Q = zX (some ((6, 0, 0, 0, []), 541)) d 109 L st h Q := zT_eq rfl
theorem zt_109_541 {d : Nat} {L : ZL} {st : List ZV} {h : ZH} {Q : Option ZV → ZH → Prop} : zT d 109 541 L st h Q = zX (some ((24, 0, 0, 0, []), 542)) d 109 L st h Q := zT_eq rfl
theorem zt_109_542 {d : Nat} {L : ZL} {st : List ZV} {h : ZH} {Q : Option ZV → ZH → Prop} : zT d 109 542 L st h Q = zX (some ((40, 100, 2, 64, [1, 6]), 545)) d 109 L st h Q := zT_eq rfl
theorem zt_109_545 {d : Nat} {L : ZL} {st : List ZV} {h : ZH} {Q : Option ZV → ZH → Prop} : zT d 109 545 L st h Q = zX (some ((11, 734, 0, 0, []), 548)) d 109 L st h Q := zT_eq rfl
theorem zt_109_548 {d : Nat} {L : ZL} {st : List ZV} {h : ZH} {Q : Option ZV → ZH → Prop} : zT d 109 548 L st h Q = zX (some ((0, 0, 0, 0, []), 549)) d 109 L st h Q := zT_eq rfl
theorem zt_109_549 {d : Nat} {L : ZL} {st : List ZV} {h : ZH} {Q : Option ZV → ZH → Prop} : zT d 109 549 L st h Q = zX (some ((51, 0, 1, 0, []), 550)) d 109 L st h Q := zT_eq rfl
theorem zt_109_550 {d : Nat} {L : ZL} {st : List ZV} {h : ZH} {Q : Option ZV → ZH → Prop} : zT d 109 550 L st h Q = zX (some ((2, 1, 0, 0, []), 551)) d 109 L st h Q := zT_eq rfl
theorem zt_109_551 {d : Nat} {L : ZL} {st : List ZV} {h : ZH} {Q : Option ZV → ZH → Prop} : zT d 109 551 L st h Q = zX (some ((2, 0, 0, 0, []), 552)) d 109 L st h Q := zT_eq rfl
theorem zt_109_552 {d : Nat} {L : ZL} {st : List ZV} {h : ZH} {Q : Option ZV → ZH → Prop} : zT d 109 552 L st h Q = zX (some ((1, 3, 0, 0, []), 553)) d 109 L st h Q := zT_eq rfl
theorem zt_109_553 {d : Nat} {L : ZL} {st : List ZV} {h : ZH} {Q : Option ZV → ZH → Prop} : zT d 109 553 L st h Q = zX (some ((0, 0, 0, 1, []), 554)) d 109 L st h Q := zT_eq rfl
theorem zt_109_554 {d : Nat} {L : ZL} {st : List ZV} {h : ZH} {Q : Option ZV → ZH → Prop} : zT d 109 554 L st h Q = zX (some ((6, 0, 0, 0, []), 555)) d 109 L st h Q := zT_eq rfl
theorem zt_109_555 {d : Nat} {L : ZL} {st : List ZV} {h : ZH} {Q : Option ZV → ZH → Prop} : zT d 109 555 L st h Q = zX (some ((24, 0, 0, 0, []), 556)) d 109 L st h Q := zT_eq rfl
theorem zt_109_556 {d : Nat} {L : ZL} {st : List ZV} {h : ZH} {Q : Option ZV → ZH → Prop} : zT d 109 556 L st h Q = zX (some ((2, 0, 0, 0, []), 557)) d 109 L st h Q := zT_eq rfl
theorem zt_109_557 {d : Nat} {L : ZL} {st : List ZV} {h : ZH} {Q : Option ZV → ZH → Prop} : zT d 109 557 L st h Q = zX (some ((1, 3, 0, 0, []), 558)) d 109 L st h Q := zT_eq rfl
theorem zt_109_558 {d : Nat} {L : ZL} {st : List ZV} {h : ZH} {Q : Option ZV → ZH → Prop} : zT d 109 558 L st h Q = zX (some ((0, 0, 0, 2, []), 559)) d 109 L st h Q := zT_eq rfl
theorem zt_109_559 {d : Nat} {L : ZL} {st : List ZV} {h : ZH} {Q : Option ZV → ZH → Prop} : zT d 109 559 L st h Q = zX (some ((6, 0, 0, 0, []), 560)) d 109 L st h Q := zT_eq rfl
theorem zt_109_560 {d : Nat} {L : ZL} {st : List ZV} {h : ZH} {Q : Option ZV → ZH → Prop} : zT d 109 560 L st h Q = zX (some ((24, 0, 0, 0, []), 561)) d 109 L st h Q := zT_eq rfl
theorem zt_109_561 {d : Nat} {L : ZL} {st : List ZV} {h : ZH} {Q : Option ZV → ZH → Prop} : zT d 109 561 L st h Q = zX (some ((40, 13, 3, 65, [1, 0]), 564)) d 109 L st h Q := zT_eq rfl
theorem zt_109_564 {d : Nat} {L : ZL} {st : List ZV} {h : ZH} {Q : Option ZV → ZH → Prop} : zT d 109 564 L st h Q = zX (some ((2, 2, 0, 0, []), 565)) d 109 L st h Q := zT_eq rfl
theorem zt_109_565 {d : Nat} {L : ZL} {st : List ZV} {h : ZH} {Q : Option ZV → ZH → Prop} : zT d 109 565 L st h Q = zX (some ((2, 0, 0, 0, []), 566)) d 109 L st h Q := zT_eq rfl
theorem zt_109_566 {d : Nat} {L : ZL} {st : List ZV} {h : ZH} {Q : Option ZV → ZH → Prop} : zT d 109 566 L st h Q = zX (some ((1, 3, 0, 0, []), 567)) d 109 L st h Q := zT_eq rfl
theorem zt_109_567 {d : Nat} {L : ZL} {st : List ZV} {h : ZH} {Q : Option ZV → ZH → Prop} : zT d 109 567 L st h Q = zX (some ((0, 0, 0, 1, []), 568)) d 109 L st h Q := zT_eq rfl
theorem zt_109_568 {d : Nat} {L : ZL} {st : List ZV} {h : ZH} {Q : Option ZV → ZH → Prop} : zT d 109 568 L st h Q = zX (some ((6, 0, 0, 0, []), 569)) d 109 L st h Q := zT_eq rfl
theorem zt_109_569 {d : Nat} {L : ZL} {st : List ZV} {h : ZH} {Q : Option ZV → ZH → Prop} : zT d 109 569 L st h Q = zX (some ((24, 0, 0, 0, []), 570)) d 109 L st h Q := zT_eq rfl
theorem zt_109_570 {d : Nat} {L : ZL} {st : List ZV} {h : ZH} {Q : Option ZV → ZH → Prop} : zT d 109 570 L st h Q = zX (some ((2, 0, 0, 0, []), 571)) d 109 L st h Q := zT_eq rfl
theorem zt_109_571 {d : Nat} {L : ZL} {st : List ZV} {h : ZH} {Q : Option ZV → ZH → Prop} : zT d 109 571 L st h Q = zX (some ((1, 3, 0, 0, []), 572)) d 109 L st h Q := zT_eq rfl
theorem zt_109_572 {d : Nat} {L : ZL} {st : List ZV} {h : ZH} {Q : Option ZV → ZH → Prop} : zT d 109 572 L st h Q = zX (some ((0, 0, 0, 2, []), 573)) d 109 L st h Q := zT_eq rfl
theorem zt_109_573 {d : Nat} {L : ZL} {st : List ZV} {h : ZH} {Q : Option ZV → ZH → Prop} : zT d 109 573 L st h Q = zX (some ((6, 0, 0, 0, []), 574)) d 109 L st h Q := zT_eq rfl
theorem zt_109_574 {d : Nat} {L : ZL} {st : List ZV} {h : ZH} {Q : Option ZV → ZH → Prop} : zT d 109 574 L st h Q = zX (some ((24, 0, 0, 0, []), 575)) d 109 L st h Q := zT_eq rfl
theorem zt_109_575 {d : Nat} {L : ZL} {st : List ZV} {h : ZH} {Q : Option ZV → ZH → Prop} : zT d 109 575 L st h Q = zX (some ((40, 101, 3, 68, [1, 6]), 578)) d 109 L st h Q := zT_eq rfl
theorem zt_109_578 {d : Nat} {L : ZL} {st : List ZV} {h : ZH} {Q : Option ZV → ZH → Prop} : zT d 109 578 L st h Q = zX (some ((11, 734, 0, 0, []), 581)) d 109 L st h Q := zT_eq rfl
theorem zt_109_581 {d : Nat} {L : ZL} {st : List ZV} {h : ZH} {Q : Option ZV → ZH → Prop} : zT d 109 581 L st h Q = zX (some ((0, 0, 0, 0, []), 582)) d 109 L st h Q := zT_eq rfl
theorem zt_109_582 {d : Nat} {L : ZL} {st : List ZV} {h : ZH} {Q : Option ZV → ZH → Prop} : zT d 109 582 L st h Q = zX (some ((51, 0, 1, 0, []), 583)) d 109 L st h Q := zT_eq rfl
theorem zt_109_583 {d : Nat} {L : ZL} {st : List ZV} {h : ZH} {Q : Option ZV → ZH → Prop} : zT d 109 583 L st h Q = zX (some ((2, 1, 0, 0, []), 584)) d 109 L st h Q := zT_eq rfl
theorem zt_109_584 {d : Nat} {L : ZL} {st : List ZV} {h : ZH} {Q : Option ZV → ZH → Prop} : zT d 109 584 L st h Q = zX (some ((2, 0, 0, 0, []), 585)) d 109 L st h Q := zT_eq rfl
theorem zt_109_585 {d : Nat} {L : ZL} {st : List ZV} {h : ZH} {Q : Option ZV → ZH → Prop} : zT d 109 585 L st h Q = zX (some ((1, 3, 0, 0, []), 586)) d 109 L st h Q := zT_eq rfl
theorem zt_109_586 {d : Nat} {L : ZL} {st : List ZV} {h : ZH} {Q : Option ZV → ZH → Prop} : zT d 109 586 L st h Q = zX (some ((0, 0, 0, 1, []), 587)) d 109 L st h Q := zT_eq rfl
theorem zt_109_587 {d : Nat} {L : ZL} {st : List ZV} {h : ZH} {Q : Option ZV → ZH → Prop} : zT d 109 587 L st h Q = zX (some ((6, 0, 0, 0, []), 588)) d 109 L st h Q := zT_eq rfl
theorem zt_109_588 {d : Nat} {L : ZL} {st : List ZV} {h : ZH} {Q : Option ZV → ZH → Prop} : zT d 109 588 L st h Q = zX (some ((24, 0, 0, 0, []), 589)) d 109 L st h Q := zT_eq rfl
theorem zt_109_589 {d : Nat} {L : ZL} {st : List ZV} {h : ZH} {Q : Option ZV → ZH → Prop} : zT d 109 589 L st h Q = zX (some ((40, 14, 2, 69, [1, 0]), 592)) d 109 L st h Q := zT_eq rfl
theorem zt_109_592 {d : Nat} {L : ZL} {st : List ZV} {h : ZH} {Q : Option ZV → ZH → Prop} : zT d 109 592 L st h Q = zX (some ((2, 2, 0, 0, []), 593)) d 109 L st h Q := zT_eq rfl
theorem zt_109_593 {d : Nat} {L : ZL} {st : List ZV} {h : ZH} {Q : Option ZV → ZH → Prop} : zT d 109 593 L st h Q = zX (some ((2, 0, 0, 0, []), 594)) d 109 L st h Q := zT_eq rfl
theorem zt_109_594 {d : Nat} {L : ZL} {st : List ZV} {h : ZH} {Q : Option ZV → ZH → Prop} : zT d 109 594 L st h Q = zX (some ((1, 3, 0, 0, []), 595)) d 109 L st h Q := zT_eq rfl
theorem zt_109_595 {d : Nat} {L : ZL} {st : List ZV} {h : ZH} {Q : Option ZV → ZH → Prop} : zT d 109 595 L st h Q = zX (some ((0, 0, 0, 1, []), 596)) d 109 L st h Q := zT_eq rfl
theorem zt_109_596 {d : Nat} {L : ZL} {st : List ZV} {h : ZH} {Q : Option ZV → ZH → Prop} : zT d 109 596 L st h Q = zX (some ((6, 0, 0, 0, []), 597)) d 109 L st h Q := zT_eq rfl
theorem zt_109_597 {d : Nat} {L : ZL} {st : List ZV} {h : ZH} {Q : Option ZV → ZH → Prop} : zT d 109 597 L st h Q = zX (some ((24, 0, 0, 0, []), 598)) d 109 L st h Q := zT_eq rfl
theorem zt_109_598 {d : Nat} {L : ZL} {st : List ZV} {h : ZH} {Q : Option ZV → ZH → Prop} : zT d 109 598 L st h Q = zX (some ((40, 102, 2, 72, [1, 6]), 601)) d 109 L st h Q := zT_eq rfl
set_option maxRecDepth 20000 in
theorem zt_109_601 {d : Nat} {L : ZL} {st : List ZV} {h : ZH} {Q : Option ZV → ZH → Prop} : zT d 109 601 L st h Q = zX (some ((11, 734, 0, 0, []), 604)) d 109 L st h Q := zT_eq rfl
set_option maxRecDepth 20000 in
theorem zt_109_604 {d : Nat} {L : ZL} {st : List ZV} {h : ZH} {Q : Option ZV → ZH → Prop} : zT d 109 604 L st h Q = zX (some ((0, 0, 0, 0, []), 605)) d 109 L st h Q := zT_eq rfl
set_option maxRecDepth 20000 in
theorem zt_109_605 {d : Nat} {L : ZL} {st : List ZV} {h : ZH} {Q : Option ZV → ZH → Prop} : zT d 109 605 L st h Q = zX (some ((51, 0, 1, 0, []), 606)) d 109 L st h Q := zT_eq rfl
set_option maxRecDepth 20000 in
theorem zt_109_606 {d : Nat} {L : ZL} {st : List ZV} {h : ZH} {Q : Option ZV → ZH → Prop} : zT d 109 606 L st h Q = zX (some ((2, 1, 0, 0, []), 607)) d 109 L st h Q := zT_eq rfl
set_option maxRecDepth 20000 in
theorem zt_109_607 {d : Nat} {L : ZL} {st : List ZV} {h : ZH} {Q : Option ZV → ZH → Prop} : zT d 109 607 L st h Q = zX (some ((2, 0, 0, 0, []), 608)) d 109 L st h Q := zT_eq rfl
set_option maxRecDepth 20000 in
theorem zt_109_608 {d : Nat} {L : ZL} {st : List ZV} {h : ZH} {Q : Option ZV → ZH → Prop} : zT d 109 608 L st h Q = zX (some ((1, 3, 0, 0, []), 609)) d 109 L st h Q := zT_eq rfl
set_option maxRecDepth 20000 in
theorem zt_109_609 {d : Nat} {L : ZL} {st : List ZV} {h : ZH} {Q : Option ZV → ZH → Prop} : zT d 109 609 L st h Q = zX (some ((0, 0, 0, 1, []), 610)) d 109 L st h Q := zT_eq rfl
set_option maxRecDepth 20000 in
theorem zt_109_610 {d : Nat} {L : ZL} {st : List ZV} {h : ZH} {Q : Option ZV → ZH → Prop} : zT d 109 610 L st h Q = zX (some ((6, 0, 0, 0, []), 611)) d 109 L st h Q := zT_eq rfl
set_option maxRecDepth 20000 in
theorem zt_109_611 {d : Nat} {L : ZL} {st : List ZV} {h : ZH} {Q : Option ZV → ZH → Prop} : zT d 109 611 L st h Q = zX (some ((24, 0, 0, 0, []), 612)) d 109 L st h Q := zT_eq rfl
set_option maxRecDepth 20000 in
theorem zt_109_612 {d : Nat} {L : ZL} {st : List ZV} {h : ZH} {Q : Option ZV → ZH → Prop} : zT d 109 612 L st h Q = zX (some ((40, 15, 2, 73, [1, 0]), 615)) d 109 L st h Q := zT_eq rfl
set_option maxRecDepth 20000 in
theorem zt_109_615 {d : Nat} {L : ZL} {st : List ZV} {h : ZH} {Q : Option ZV → ZH → Prop} : zT d 109 615 L st h Q = zX (some ((2, 2, 0, 0, []), 616)) d 109 L st h Q := zT_eq rfl
set_option maxRecDepth 20000 in
theorem zt_109_616 {d : Nat} {L : ZL} {st : List ZV} {h : ZH} {Q : Option ZV → ZH → Prop} : zT d 109 616 L st h Q = zX (some ((2, 0, 0, 0, []), 617)) d 109 L st h Q := zT_eq rfl
set_option maxRecDepth 20000 in
theorem zt_109_617 {d : Nat} {L : ZL} {st : List ZV} {h : ZH} {Q : Option ZV → ZH → Prop} : zT d 109 617 L st h Q = zX (some ((1, 3, 0, 0, []), 618)) d 109 L st h Q := zT_eq rfl
set_option maxRecDepth 20000 in
theorem zt_109_618 {d : Nat} {L : ZL} {st : List ZV} {h : ZH} {Q : Option ZV → ZH → Prop} : zT d 109 618 L st h Q = zX (some ((0, 0, 0, 1, []), 619)) d 109 L st h Q := zT_eq rfl
set_option maxRecDepth 20000 in
theorem zt_109_619 {d : Nat} {L : ZL} {st : List ZV} {h : ZH} {Q : Option ZV → ZH → Prop} : zT d 109 619 L st h Q = zX (some ((6, 0, 0, 0, []), 620)) d 109 L st h Q := zT_eq rfl
set_option maxRecDepth 20000 in
theorem zt_109_620 {d : Nat} {L : ZL} {st : List ZV} {h : ZH} {Q : Option ZV → ZH → Prop} : zT d 109 620 L st h Q = zX (some ((24, 0, 0, 0, []), 621)) d 109 L st h Q := zT_eq rfl
set_option maxRecDepth 20000 in
theorem zt_109_621 {d : Nat} {L : ZL} {st : List ZV} {h : ZH} {Q : Option ZV → ZH → Prop} : zT d 109 621 L st h Q = zX (some ((40, 103, 2, 76, [1, 6]), 624)) d 109 L st h Q := zT_eq rfl
set_option maxRecDepth 20000 in
theorem zt_109_624 {d : Nat} {L : ZL} {st : List ZV} {h : ZH} {Q : Option ZV → ZH → Prop} : zT d 109 624 L st h Q = zX (some ((11, 734, 0, 0, []), 627)) d 109 L st h Q := zT_eq rfl
set_option maxRecDepth 20000 in
theorem zt_109_627 {d : Nat} {L : ZL} {st : List ZV} {h : ZH} {Q : Option ZV → ZH → Prop} : zT d 109 627 L st h Q = zX (some ((0, 0, 0, 0, []), 628)) d 109 L st h Q := zT_eq rfl
set_option maxRecDepth 20000 in
theorem zt_109_628 {d : Nat} {L : ZL} {st : List ZV} {h : ZH} {Q : Option ZV → ZH → Prop} : zT d 109 628 L st h Q = zX (some ((51, 0, 1, 0, []), 629)) d 109 L st h Q := zT_eq rfl
set_option maxRecDepth 20000 in
theorem zt_109_629 {d : Nat} {L : ZL} {st : List ZV} {h : ZH} {Q : Option ZV → ZH → Prop} : zT d 109 629 L st h Q = zX (some ((2, 1, 0, 0, []), 630)) d 109 L st h Q := zT_eq rfl
set_option maxRecDepth 20000 in
theorem zt_109_630 {d : Nat} {L : ZL} {st : List ZV} {h : ZH} {Q : Option ZV → ZH → Prop} : zT d 109 630 L st h Q = zX (some ((2, 0, 0, 0, []), 631)) d 109 L st h Q := zT_eq rfl
set_option maxRecDepth 20000 in
theorem zt_109_631 {d : Nat} {L : ZL} {st : List ZV} {h : ZH} {Q : Option ZV → ZH → Prop} : zT d 109 631 L st h Q = zX (some ((1, 3, 0, 0, []), 632)) d 109 L st h Q := zT_eq rfl
set_option maxRecDepth 20000 in
theorem zt_109_632 {d : Nat} {L : ZL} {st : List ZV} {h : ZH} {Q : Option ZV → ZH → Prop} : zT d 109 632 L st h Q = zX (some ((0, 0, 0, 1, []), 633)) d 109 L st h Q := zT_eq rfl
set_option maxRecDepth 20000 in
theorem zt_109_633 {d : Nat} {L : ZL} {st : List ZV} {h : ZH} {Q : Option ZV → ZH → Prop} : zT d 109 633 L st h Q = zX (some ((6, 0, 0, 0, []), 634)) d 109 L st h Q := zT_eq rfl
set_option maxRecDepth 20000 in
theorem zt_109_634 {d : Nat} {L : ZL} {st : List ZV} {h : ZH} {Q : Option ZV → ZH → Prop} : zT d 109 634 L st h Q = zX (some ((24, 0, 0, 0, []), 635)) d 109 L st h Q := zT_eq rfl
set_option maxRecDepth 20000 in
theorem zt_109_635 {d : Nat} {L : ZL} {st : List ZV} {h : ZH} {Q : Option ZV → ZH → Prop} : zT d 109 635 L st h Q = zX (some ((2, 0, 0, 0, []), 636)) d 109 L st h Q := zT_eq rfl
set_option maxRecDepth 20000 in
theorem zt_109_636 {d : Nat} {L : ZL} {st : List ZV} {h : ZH} {Q : Option ZV → ZH → Prop} : zT d 109 636 L st h Q = zX (some ((1, 3, 0, 0, []), 637)) d 109 L st h Q := zT_eq rfl
set_option maxRecDepth 20000 in
theorem zt_109_637 {d : Nat} {L : ZL} {st : List ZV} {h : ZH} {Q : Option ZV → ZH → Prop} : zT d 109 637 L st h Q = zX (some ((0, 0, 0, 2, []), 638)) d 109 L st h Q := zT_eq rfl
set_option maxRecDepth 20000 in
theorem zt_109_638 {d : Nat} {L : ZL} {st : List ZV} {h : ZH} {Q : Option ZV → ZH → Prop} : zT d 109 638 L st h Q = zX (some ((6, 0, 0, 0, []), 639)) d 109 L st h Q := zT_eq rfl
set_option maxRecDepth 20000 in
theorem zt_109_639 {d : Nat} {L : ZL} {st : List ZV} {h : ZH} {Q : Option ZV → ZH → Prop} : zT d 109 639 L st h Q = zX (some ((24, 0, 0, 0, []), 640)) d 109 L st h Q := zT_eq rfl
set_option maxRecDepth 20000 in
theorem zt_109_640 {d : Nat} {L : ZL} {st : List ZV} {h : ZH} {Q : Option ZV → ZH → Prop} : zT d 109 640 L st h Q = zX (some ((40, 16, 3, 77, [1, 0]), 643)) d 109 L st h Q := zT_eq rfl
set_option maxRecDepth 20000 in
theorem zt_109_643 {d : Nat} {L : ZL} {st : List ZV} {h : ZH} {Q : Option ZV → ZH → Prop} : zT d 109 643 L st h Q = zX (some ((2, 2, 0, 0, []), 644)) d 109 L st h Q := zT_eq rfl
set_option maxRecDepth 20000 in
theorem zt_109_644 {d : Nat} {L : ZL} {st : List ZV} {h : ZH} {Q : Option ZV → ZH → Prop} : zT d 109 644 L st h Q = zX (some ((2, 0, 0, 0, []), 645)) d 109 L st h Q := zT_eq rfl
set_option maxRecDepth 20000 in
theorem zt_109_645 {d : Nat} {L : ZL} {st : List ZV} {h : ZH} {Q : Option ZV → ZH → Prop} : zT d 109 645 L st h Q = zX (some ((1, 3, 0, 0, []), 646)) d 109 L st h Q := zT_eq rfl
set_option maxRecDepth 20000 in
theorem zt_109_646 {d : Nat} {L : ZL} {st : List ZV} {h : ZH} {Q : Option ZV → ZH → Prop} : zT d 109 646 L st h Q = zX (some ((0, 0, 0, 1, []), 647)) d 109 L st h Q := zT_eq rfl
set_option maxRecDepth 20000 in
theorem zt_109_647 {d : Nat} {L : ZL} {st : List ZV} {h : ZH} {Q : Option ZV → ZH → Prop} : zT d 109 647 L st h Q = zX (some ((6, 0, 0, 0, []), 648)) d 109 L st h Q := zT_eq rfl
set_option maxRecDepth 20000 in
theorem zt_109_648 {d : Nat} {L : ZL} {st : List ZV} {h : ZH} {Q : Option ZV → ZH → Prop} : zT d 109 648 L st h Q = zX (some ((24, 0, 0, 0, []), 649)) d 109 L st h Q := zT_eq rfl
set_option maxRecDepth 20000 in
theorem zt_109_649 {d : Nat} {L : ZL} {st : List ZV} {h : ZH} {Q : Option ZV → ZH → Prop} : zT d 109 649 L st h Q = zX (some ((2, 0, 0, 0, []), 650)) d 109 L st h Q := zT_eq rfl
set_option maxRecDepth 20000 in
theorem zt_109_650 {d : Nat} {L : ZL} {st : List ZV} {h : ZH} {Q : Option ZV → ZH → Prop} : zT d 109 650 L st h Q = zX (some ((1, 3, 0, 0, []), 651)) d 109 L st h Q := zT_eq rfl
set_option maxRecDepth 20000 in
theorem zt_109_651 {d : Nat} {L : ZL} {st : List ZV} {h : ZH} {Q : Option ZV → ZH → Prop} : zT d 109 651 L st h Q = zX (some ((0, 0, 0, 2, []), 652)) d 109 L st h Q := zT_eq rfl
set_option maxRecDepth 20000 in
theorem zt_109_652 {d : Nat} {L : ZL} {st : List ZV} {h : ZH} {Q : Option ZV → ZH → Prop} : zT d 109 652 L st h Q = zX (some ((6, 0, 0, 0, []), 653)) d 109 L st h Q := zT_eq rfl
set_option maxRecDepth 20000 in
theorem zt_109_653 {d : Nat} {L : ZL} {st : List ZV} {h : ZH} {Q : Option ZV → ZH → Prop} : zT d 109 653 L st h Q = zX (some ((24, 0, 0, 0, []), 654)) d 109 L st h Q := zT_eq rfl
set_option maxRecDepth 20000 in
theorem zt_109_654 {d : Nat} {L : ZL} {st : List ZV} {h : ZH} {Q : Option ZV → ZH → Prop} : zT d 109 654 L st h Q = zX (some ((40, 104, 3, 80, [1, 6]), 657)) d 109 L st h Q := zT_eq rfl
set_option maxRecDepth 20000 in
theorem zt_109_657 {d : Nat} {L : ZL} {st : List ZV} {h : ZH} {Q : Option ZV → ZH → Prop} : zT d 109 657 L st h Q = zX (some ((11, 734, 0, 0, []), 660)) d 109 L st h Q := zT_eq rfl
set_option maxRecDepth 20000 in
theorem zt_109_660 {d : Nat} {L : ZL} {st : List ZV} {h : ZH} {Q : Option ZV → ZH → Prop} : zT d 109 660 L st h Q = zX (some ((0, 0, 0, 0, []), 661)) d 109 L st h Q := zT_eq rfl
set_option maxRecDepth 20000 in
theorem zt_109_661 {d : Nat} {L : ZL} {st : List ZV} {h : ZH} {Q : Option ZV → ZH → Prop} : zT d 109 661 L st h Q = zX (some ((51, 0, 1, 0, []), 662)) d 109 L st h Q := zT_eq rfl
set_option maxRecDepth 20000 in
theorem zt_109_662 {d : Nat} {L : ZL} {st : List ZV} {h : ZH} {Q : Option ZV → ZH → Prop} : zT d 109 662 L st h Q = zX (some ((2, 1, 0, 0, []), 663)) d 109 L st h Q := zT_eq rfl
set_option maxRecDepth 20000 in
theorem zt_109_663 {d : Nat} {L : ZL} {st : List ZV} {h : ZH} {Q : Option ZV → ZH → Prop} : zT d 109 663 L st h Q = zX (some ((2, 0, 0, 0, []), 664)) d 109 L st h Q := zT_eq rfl
set_option maxRecDepth 20000 in
theorem zt_109_664 {d : Nat} {L : ZL} {st : List ZV} {h : ZH} {Q : Option ZV → ZH → Prop} : zT d 109 664 L st h Q = zX (some ((1, 3, 0, 0, []), 665)) d 109 L st h Q := zT_eq rfl
set_option maxRecDepth 20000 in
theorem zt_109_665 {d : Nat} {L : ZL} {st : List ZV} {h : ZH} {Q : Option ZV → ZH → Prop} : zT d 109 665 L st h Q = zX (some ((0, 0, 0, 1, []), 666)) d 109 L st h Q := zT_eq rfl
set_option maxRecDepth 20000 in
theorem zt_109_666 {d : Nat} {L : ZL} {st : List ZV} {h : ZH} {Q : Option ZV → ZH → Prop} : zT d 109 666 L st h Q = zX (some ((6, 0, 0, 0, []), 667)) d 109 L st h Q := zT_eq rfl
set_option maxRecDepth 20000 in
theorem zt_109_667 {d : Nat} {L : ZL} {st : List ZV} {h : ZH} {Q : Option ZV → ZH → Prop} : zT d 109 667 L st h Q = zX (some ((24, 0, 0, 0, []), 668)) d 109 L st h Q := zT_eq rfl
set_option maxRecDepth 20000 in
theorem zt_109_668 {d : Nat} {L : ZL} {st : List ZV} {h : ZH} {Q : Option ZV → ZH → Prop} : zT d 109 668 L st h Q = zX (some ((40, 17, 2, 81, [1, 0]), 671)) d 109 L st h Q := zT_eq rfl
set_option maxRecDepth 20000 in
theorem zt_109_671 {d : Nat} {L : ZL} {st : List ZV} {h : ZH} {Q : Option ZV → ZH → Prop} : zT d 109 671 L st h Q = zX (some ((2, 2, 0, 0, []), 672)) d 109 L st h Q := zT_eq rfl
set_option maxRecDepth 20000 in
theorem zt_109_672 {d : Nat} {L : ZL} {st : List ZV} {h : ZH} {Q : Option ZV → ZH → Prop} : zT d 109 672 L st h Q = zX (some ((2, 0, 0, 0, []), 673)) d 109 L st h Q := zT_eq rfl
set_option maxRecDepth 20000 in
theorem zt_109_673 {d : Nat} {L : ZL} {st : List ZV} {h : ZH} {Q : Option ZV → ZH → Prop} : zT d 109 673 L st h Q = zX (some ((1, 3, 0, 0, []), 674)) d 109 L st h Q := zT_eq rfl
set_option maxRecDepth 20000 in
theorem zt_109_674 {d : Nat} {L : ZL} {st : List ZV} {h : ZH} {Q : Option ZV → ZH → Prop} : zT d 109 674 L st h Q = zX (some ((0, 0, 0, 1, []), 675)) d 109 L st h Q := zT_eq rfl
set_option maxRecDepth 20000 in
theorem zt_109_675 {d : Nat} {L : ZL} {st : List ZV} {h : ZH} {Q : Option ZV → ZH → Prop} : zT d 109 675 L st h Q = zX (some ((6, 0, 0, 0, []), 676)) d 109 L st h Q := zT_eq rfl
set_option maxRecDepth 20000 in
theorem zt_109_676 {d : Nat} {L : ZL} {st : List ZV} {h : ZH} {Q : Option ZV → ZH → Prop} : zT d 109 676 L st h Q = zX (some ((24, 0, 0, 0, []), 677)) d 109 L st h Q := zT_eq rfl
set_option maxRecDepth 20000 in
theorem zt_109_677 {d : Nat} {L : ZL} {st : List ZV} {h : ZH} {Q : Option ZV → ZH → Prop} : zT d 109 677 L st h Q = zX (some ((40, 105, 2, 84, [1, 6]), 680)) d 109 L st h Q := zT_eq rfl
set_option maxRecDepth 20000 in
theorem zt_109_680 {d : Nat} {L : ZL} {st : List ZV} {h : ZH} {Q : Option ZV → ZH → Prop} : zT d 109 680 L st h Q = zX (some ((11, 734, 0, 0, []), 683)) d 109 L st h Q := zT_eq rfl
set_option maxRecDepth 20000 in
theorem zt_109_683 {d : Nat} {L : ZL} {st : List ZV} {h : ZH} {Q : Option ZV → ZH → Prop} : zT d 109 683 L st h Q = zX (some ((0, 0, 0, 0, []), 684)) d 109 L st h Q := zT_eq rfl
set_option maxRecDepth 20000 in
theorem zt_109_684 {d : Nat} {L : ZL} {st : List ZV} {h : ZH} {Q : Option ZV → ZH → Prop} : zT d 109 684 L st h Q = zX (some ((51, 0, 1, 0, []), 685)) d 109 L st h Q := zT_eq rfl
set_option maxRecDepth 20000 in
theorem zt_109_685 {d : Nat} {L : ZL} {st : List ZV} {h : ZH} {Q : Option ZV → ZH → Prop} : zT d 109 685 L st h Q = zX (some ((2, 1, 0, 0, []), 686)) d 109 L st h Q := zT_eq rfl
set_option maxRecDepth 20000 in
theorem zt_109_686 {d : Nat} {L : ZL} {st : List ZV} {h : ZH} {Q : Option ZV → ZH → Prop} : zT d 109 686 L st h Q = zX (some ((2, 0, 0, 0, []), 687)) d 109 L st h Q := zT_eq rfl
set_option maxRecDepth 20000 in
theorem zt_109_687 {d : Nat} {L : ZL} {st : List ZV} {h : ZH} {Q : Option ZV → ZH → Prop} : zT d 109 687 L st h Q = zX (some ((1, 3, 0, 0, []), 688)) d 109 L st h Q := zT_eq rfl
set_option maxRecDepth 20000 in
theorem zt_109_688 {d : Nat} {L : ZL} {st : List ZV} {h : ZH} {Q : Option ZV → ZH → Prop} : zT d 109 688 L st h Q = zX (some ((0, 0, 0, 1, []), 689)) d 109 L st h Q := zT_eq rfl
set_option maxRecDepth 20000 in
theorem zt_109_689 {d : Nat} {L : ZL} {st : List ZV} {h : ZH} {Q : Option ZV → ZH → Prop} : zT d 109 689 L st h Q = zX (some ((6, 0, 0, 0, []), 690)) d 109 L st h Q := zT_eq rfl
set_option maxRecDepth 20000 in
theorem zt_109_690 {d : Nat} {L : ZL} {st : List ZV} {h : ZH} {Q : Option ZV → ZH → Prop} : zT d 109 690 L st h Q = zX (some ((24, 0, 0, 0, []), 691)) d 109 L st h Q := zT_eq rfl
set_option maxRecDepth 20000 in
theorem zt_109_691 {d : Nat} {L : ZL} {st : List ZV} {h : ZH} {Q : Option ZV → ZH → Prop} : zT d 109 691 L st h Q = zX (some ((40, 18, 2, 85, [1, 0]), 694)) d 109 L st h Q := zT_eq rfl
set_option maxRecDepth 20000 in
theorem zt_109_694 {d : Nat} {L : ZL} {st : List ZV} {h : ZH} {Q : Option ZV → ZH → Prop} : zT d 109 694 L st h Q = zX (some ((2, 2, 0, 0, []), 695)) d 109 L st h Q := zT_eq rfl
set_option maxRecDepth 20000 in
theorem zt_109_695 {d : Nat} {L : ZL} {st : List ZV} {h : ZH} {Q : Option ZV → ZH → Prop} : zT d 109 695 L st h Q = zX (some ((2, 0, 0, 0, []), 696)) d 109 L st h Q := zT_eq rfl
set_option maxRecDepth 20000 in
theorem zt_109_696 {d : Nat} {L : ZL} {st : List ZV} {h : ZH} {Q : Option ZV → ZH → Prop} : zT d 109 696 L st h Q = zX (some ((1, 3, 0, 0, []), 697)) d 109 L st h Q := zT_eq rfl
set_option maxRecDepth 20000 in
theorem zt_109_697 {d : Nat} {L : ZL} {st : List ZV} {h : ZH} {Q : Option ZV → ZH → Prop} : zT d 109 697 L st h Q = zX (some ((0, 0, 0, 1, []), 698)) d 109 L st h Q := zT_eq rfl
set_option maxRecDepth 20000 in
theorem zt_109_698 {d : Nat} {L : ZL} {st : List ZV} {h : ZH} {Q : Option ZV → ZH → Prop} : zT d 109 698 L st h Q = zX (some ((6, 0, 0, 0, []), 699)) d 109 L st h Q := zT_eq rfl
set_option maxRecDepth 20000 in
theorem zt_109_699 {d : Nat} {L : ZL} {st : List ZV} {h : ZH} {Q : Option ZV → ZH → Prop} : zT d 109 699 L st h Q = zX (some ((24, 0, 0, 0, []), 700)) d 109 L st h Q := zT_eq rfl
set_option maxRecDepth 20000 in
theorem zt_109_700 {d : Nat} {L : ZL} {st : List ZV} {h : ZH} {Q : Option ZV → ZH → Prop} : zT d 109 700 L st h Q = zX (some ((40, 106, 2, 88, [1, 6]), 703)) d 109 L st h Q := zT_eq rfl
set_option maxRecDepth 20000 in
theorem zt_109_703 {d : Nat} {L : ZL} {st : List ZV} {h : ZH} {Q : Option ZV → ZH → Prop} : zT d 109 703 L st h Q = zX (some ((11, 734, 0, 0, []), 706)) d 109 L st h Q := zT_eq rfl
set_option maxRecDepth 20000 in
theorem zt_109_706 {d : Nat} {L : ZL} {st : List ZV} {h : ZH} {Q : Option ZV → ZH → Prop} : zT d 109 706 L st h Q = zX (some ((0, 0, 0, 0, []), 707)) d 109 L st h Q := zT_eq rfl
set_option maxRecDepth 20000 in
theorem zt_109_707 {d : Nat} {L : ZL} {st : List ZV} {h : ZH} {Q : Option ZV → ZH → Prop} : zT d 109 707 L st h Q = zX (some ((51, 0, 1, 0, []), 708)) d 109 L st h Q := zT_eq rfl
set_option maxRecDepth 20000 in
theorem zt_109_708 {d : Nat} {L : ZL} {st : List ZV} {h : ZH} {Q : Option ZV → ZH → Prop} : zT d 109 708 L st h Q = zX (some ((2, 1, 0, 0, []), 709)) d 109 L st h Q := zT_eq rfl
set_option maxRecDepth 20000 in
theorem zt_109_709 {d : Nat} {L : ZL} {st : List ZV} {h : ZH} {Q : Option ZV → ZH → Prop} : zT d 109 709 L st h Q = zX (some ((40, 19, 1, 89, [1, 0]), 712)) d 109 L st h Q := zT_eq rfl
set_option maxRecDepth 20000 in
theorem zt_109_712 {d : Nat} {L : ZL} {st : List ZV} {h : ZH} {Q : Option ZV → ZH → Prop} : zT d 109 712 L st h Q = zX (some ((2, 2, 0, 0, []), 713)) d 109 L st h Q := zT_eq rfl
set_option maxRecDepth 20000 in
theorem zt_109_713 {d : Nat} {L : ZL} {st : List ZV} {h : ZH} {Q : Option ZV → ZH → Prop} : zT d 109 713 L st h Q = zX (some ((40, 107, 1, 93, [1, 6]), 716)) d 109 L st h Q := zT_eq rfl
set_option maxRecDepth 20000 in
theorem zt_109_716 {d : Nat} {L : ZL} {st : List ZV} {h : ZH} {Q : Option ZV → ZH → Prop} : zT d 109 716 L st h Q = zX (some ((11, 734, 0, 0, []), 719)) d 109 L st h Q := zT_eq rfl
set_option maxRecDepth 20000 in
theorem zt_109_719 {d : Nat} {L : ZL} {st : List ZV} {h : ZH} {Q : Option ZV → ZH → Prop} : zT d 109 719 L st h Q = zX (some ((0, 0, 0, 0, []), 720)) d 109 L st h Q := zT_eq rfl
set_option maxRecDepth 20000 in
theorem zt_109_720 {d : Nat} {L : ZL} {st : List ZV} {h : ZH} {Q : Option ZV → ZH → Prop} : zT d 109 720 L st h Q = zX (some ((51, 0, 1, 0, []), 721)) d 109 L st h Q := zT_eq rfl
set_option maxRecDepth 20000 in
theorem zt_109_721 {d : Nat} {L : ZL} {st : List ZV} {h : ZH} {Q : Option ZV → ZH → Prop} : zT d 109 721 L st h Q = zX (some ((2, 1, 0, 0, []), 722)) d 109 L st h Q := zT_eq rfl
set_option maxRecDepth 20000 in
theorem zt_109_722 {d : Nat} {L : ZL} {st : List ZV} {h : ZH} {Q : Option ZV → ZH → Prop} : zT d 109 722 L st h Q = zX (some ((40, 20, 1, 94, [1, 0]), 725)) d 109 L st h Q := zT_eq rfl
set_option maxRecDepth 20000 in
theorem zt_109_725 {d : Nat} {L : ZL} {st : List ZV} {h : ZH} {Q : Option ZV → ZH → Prop} : zT d 109 725 L st h Q = zX (some ((2, 2, 0, 0, []), 726)) d 109 L st h Q := zT_eq rfl
set_option maxRecDepth 20000 in
theorem zt_109_726 {d : Nat} {L : ZL} {st : List ZV} {h : ZH} {Q : Option ZV → ZH → Prop} : zT d 109 726 L st h Q = zX (some ((40, 108, 1, 97, [1, 6]), 729)) d 109 L st h Q := zT_eq rfl
set_option maxRecDepth 20000 in
theorem zt_109_729 {d : Nat} {L : ZL} {st : List ZV} {h : ZH} {Q : Option ZV → ZH → Prop} : zT d 109 729 L st h Q = zX (some ((11, 734, 0, 0, []), 732)) d 109 L st h Q := zT_eq rfl
set_option maxRecDepth 20000 in
theorem zt_109_732 {d : Nat} {L : ZL} {st : List ZV} {h : ZH} {Q : Option ZV → ZH → Prop} : zT d 109 732 L st h Q = zX (some ((0, 0, 0, 0, []), 733)) d 109 L st h Q := zT_eq rfl
set_option maxRecDepth 20000 in
theorem zt_109_733 {d : Nat} {L : ZL} {st : List ZV} {h : ZH} {Q : Option ZV → ZH → Prop} : zT d 109 733 L st h Q = zX (some ((51, 0, 1, 0, []), 734)) d 109 L st h Q := zT_eq rfl
set_option maxRecDepth 20000 in
theorem zt_109_734 {d : Nat} {L : ZL} {st : List ZV} {h : ZH} {Q : Option ZV → ZH → Prop} : zT d 109 734 L st h Q = zX (some ((5, 3, 0, 5, []), 737)) d 109 L st h Q := zT_eq rfl
set_option maxRecDepth 20000 in
theorem zt_109_737 {d : Nat} {L : ZL} {st : List ZV} {h : ZH} {Q : Option ZV → ZH → Prop} : zT d 109 737 L st h Q = zX (some ((13, 18, 0, 0, []), 740)) d 109 L st h Q := zT_eq rfl
set_option maxRecDepth 20000 in
theorem zt_109_740 {d : Nat} {L : ZL} {st : List ZV} {h : ZH} {Q : Option ZV → ZH → Prop} : zT d 109 740 L st h Q = zX (some ((0, 0, 0, 1, []), 741)) d 109 L st h Q := zT_eq rfl
set_option maxRecDepth 20000 in
theorem zt_109_741 {d : Nat} {L : ZL} {st : List ZV} {h : ZH} {Q : Option ZV → ZH → Prop} : zT d 109 741 L st h Q = zX (some ((51, 0, 1, 0, []), 742)) d 109 L st h Q := zT_eq rfl
