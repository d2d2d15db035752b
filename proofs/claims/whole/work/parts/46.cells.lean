/-! where the cells lie (written by wip/whole/vc.py) -/
theorem z_k0 {g : List (Option Nat)} {T : m_E} : (m_Ex g T)[0]? = some (.inl 11, [some 1, some 3, some 24, some 30, some 36, some 125, some 128, some 145, some 146, some 147, none]) := rfl
theorem z_k1 {g : List (Option Nat)} {T : m_E} : (m_Ex g T)[1]? = some (.inl 3, [some 2, none, none, none, none, none, none, none]) := rfl
theorem z_k2 {g : List (Option Nat)} {T : m_E} : (m_Ex g T)[2]? = some (.inr (.byte, 1500), []) := rfl
theorem z_k3 {g : List (Option Nat)} {T : m_E} : (m_Ex g T)[3]? = some (.inl 5, [some 4, some 16, none]) := rfl
theorem z_k4 {g : List (Option Nat)} {T : m_E} : (m_Ex g T)[4]? = some (.inl 7, [some 5, some 6, some 7, some 8, some 9, some 10, some 11, some 12, some 13, some 14, some 15, none]) := rfl
theorem z_k5 {g : List (Option Nat)} {T : m_E} : (m_Ex g T)[5]? = some (.inr (.int, 8), []) := rfl
theorem z_k6 {g : List (Option Nat)} {T : m_E} : (m_Ex g T)[6]? = some (.inr (.int, 8), []) := rfl
theorem z_k7 {g : List (Option Nat)} {T : m_E} : (m_Ex g T)[7]? = some (.inr (.int, 8), []) := rfl
theorem z_k8 {g : List (Option Nat)} {T : m_E} : (m_Ex g T)[8]? = some (.inr (.int, 8), []) := rfl
theorem z_k9 {g : List (Option Nat)} {T : m_E} : (m_Ex g T)[9]? = some (.inr (.int, 8), []) := rfl
theorem z_k10 {g : List (Option Nat)} {T : m_E} : (m_Ex g T)[10]? = some (.inr (.boolean, 8), []) := rfl
theorem z_k11 {g : List (Option Nat)} {T : m_E} : (m_Ex g T)[11]? = some (.inr (.int, 8), []) := rfl
theorem z_k12 {g : List (Option Nat)} {T : m_E} : (m_Ex g T)[12]? = some (.inr (.int, 8), []) := rfl
theorem z_k13 {g : List (Option Nat)} {T : m_E} : (m_Ex g T)[13]? = some (.inr (.int, 8), []) := rfl
theorem z_k14 {g : List (Option Nat)} {T : m_E} : (m_Ex g T)[14]? = some (.inr (.int, 8), []) := rfl
theorem z_k15 {g : List (Option Nat)} {T : m_E} : (m_Ex g T)[15]? = some (.inr (.int, 8), []) := rfl
theorem z_k16 {g : List (Option Nat)} {T : m_E} : (m_Ex g T)[16]? = some (.inl 2, [some 17, some 18, some 19, some 20, none, some 21, some 22, some 23, none]) := rfl
theorem z_k17 {g : List (Option Nat)} {T : m_E} : (m_Ex g T)[17]? = some (.inr (.int, 4), []) := rfl
theorem z_k18 {g : List (Option Nat)} {T : m_E} : (m_Ex g T)[18]? = some (.inr (.int, 4), []) := rfl
theorem z_k19 {g : List (Option Nat)} {T : m_E} : (m_Ex g T)[19]? = some (.inr (.int, 4), []) := rfl
theorem z_k20 {g : List (Option Nat)} {T : m_E} : (m_Ex g T)[20]? = some (.inr (.int, 4), []) := rfl
theorem z_k21 {g : List (Option Nat)} {T : m_E} : (m_Ex g T)[21]? = some (.inr (.int, 50), []) := rfl
theorem z_k22 {g : List (Option Nat)} {T : m_E} : (m_Ex g T)[22]? = some (.inr (.int, 50), []) := rfl
theorem z_k23 {g : List (Option Nat)} {T : m_E} : (m_Ex g T)[23]? = some (.inr (.int, 50), []) := rfl
theorem z_k24 {g : List (Option Nat)} {T : m_E} : (m_Ex g T)[24]? = some (.inl 8, [some 25, some 26, some 27, some 28, some 29, none, none]) := rfl
theorem z_k25 {g : List (Option Nat)} {T : m_E} : (m_Ex g T)[25]? = some (.inr (.int, 40), []) := rfl
theorem z_k26 {g : List (Option Nat)} {T : m_E} : (m_Ex g T)[26]? = some (.inr (.int, 40), []) := rfl
theorem z_k27 {g : List (Option Nat)} {T : m_E} : (m_Ex g T)[27]? = some (.inr (.int, 40), []) := rfl
theorem z_k28 {g : List (Option Nat)} {T : m_E} : (m_Ex g T)[28]? = some (.inr (.int, 40), []) := rfl
theorem z_k29 {g : List (Option Nat)} {T : m_E} : (m_Ex g T)[29]? = some (.inr (.int, 40), []) := rfl
theorem z_k30 {g : List (Option Nat)} {T : m_E} : (m_Ex g T)[30]? = some (.inl 8, [some 31, some 32, some 33, some 34, some 35, none, none]) := rfl
theorem z_k31 {g : List (Option Nat)} {T : m_E} : (m_Ex g T)[31]? = some (.inr (.int, 40), []) := rfl
theorem z_k32 {g : List (Option Nat)} {T : m_E} : (m_Ex g T)[32]? = some (.inr (.int, 40), []) := rfl
theorem z_k33 {g : List (Option Nat)} {T : m_E} : (m_Ex g T)[33]? = some (.inr (.int, 40), []) := rfl
theorem z_k34 {g : List (Option Nat)} {T : m_E} : (m_Ex g T)[34]? = some (.inr (.int, 40), []) := rfl
theorem z_k35 {g : List (Option Nat)} {T : m_E} : (m_Ex g T)[35]? = some (.inr (.int, 40), []) := rfl
theorem z_k36 {g : List (Option Nat)} {T : m_E} : (m_Ex g T)[36]? = some (.inl 0, [none, none, some 37, some 49, some 57, some 64, some 75, some 76]) := rfl
theorem z_k37 {g : List (Option Nat)} {T : m_E} : (m_Ex g T)[37]? = some (.inl 7, [some 38, some 39, some 40, some 41, some 42, some 43, some 44, some 45, some 46, some 47, some 48, none]) := rfl
theorem z_k38 {g : List (Option Nat)} {T : m_E} : (m_Ex g T)[38]? = some (.inr (.int, 8), []) := rfl
theorem z_k39 {g : List (Option Nat)} {T : m_E} : (m_Ex g T)[39]? = some (.inr (.int, 8), []) := rfl
theorem z_k40 {g : List (Option Nat)} {T : m_E} : (m_Ex g T)[40]? = some (.inr (.int, 8), []) := rfl
theorem z_k41 {g : List (Option Nat)} {T : m_E} : (m_Ex g T)[41]? = some (.inr (.int, 8), []) := rfl
theorem z_k42 {g : List (Option Nat)} {T : m_E} : (m_Ex g T)[42]? = some (.inr (.int, 8), []) := rfl
theorem z_k43 {g : List (Option Nat)} {T : m_E} : (m_Ex g T)[43]? = some (.inr (.boolean, 8), []) := rfl
theorem z_k44 {g : List (Option Nat)} {T : m_E} : (m_Ex g T)[44]? = some (.inr (.int, 8), []) := rfl
theorem z_k45 {g : List (Option Nat)} {T : m_E} : (m_Ex g T)[45]? = some (.inr (.int, 8), []) := rfl
theorem z_k46 {g : List (Option Nat)} {T : m_E} : (m_Ex g T)[46]? = some (.inr (.int, 8), []) := rfl
theorem z_k47 {g : List (Option Nat)} {T : m_E} : (m_Ex g T)[47]? = some (.inr (.int, 8), []) := rfl
theorem z_k48 {g : List (Option Nat)} {T : m_E} : (m_Ex g T)[48]? = some (.inr (.int, 8), []) := rfl
theorem z_k49 {g : List (Option Nat)} {T : m_E} : (m_Ex g T)[49]? = some (.inl 2, [some 50, some 51, some 52, some 53, none, some 54, some 55, some 56, none]) := rfl
theorem z_k50 {g : List (Option Nat)} {T : m_E} : (m_Ex g T)[50]? = some (.inr (.int, 4), []) := rfl
theorem z_k51 {g : List (Option Nat)} {T : m_E} : (m_Ex g T)[51]? = some (.inr (.int, 4), []) := rfl
theorem z_k52 {g : List (Option Nat)} {T : m_E} : (m_Ex g T)[52]? = some (.inr (.int, 4), []) := rfl
theorem z_k53 {g : List (Option Nat)} {T : m_E} : (m_Ex g T)[53]? = some (.inr (.int, 4), []) := rfl
theorem z_k54 {g : List (Option Nat)} {T : m_E} : (m_Ex g T)[54]? = some (.inr (.int, 50), []) := rfl
theorem z_k55 {g : List (Option Nat)} {T : m_E} : (m_Ex g T)[55]? = some (.inr (.int, 50), []) := rfl
theorem z_k56 {g : List (Option Nat)} {T : m_E} : (m_Ex g T)[56]? = some (.inr (.int, 50), []) := rfl
theorem z_k57 {g : List (Option Nat)} {T : m_E} : (m_Ex g T)[57]? = some (.inl 9, [some 58, some 59, some 60, some 61, some 62, some 63, none]) := rfl
theorem z_k58 {g : List (Option Nat)} {T : m_E} : (m_Ex g T)[58]? = some (.inr (.int, 150), []) := rfl
theorem z_k59 {g : List (Option Nat)} {T : m_E} : (m_Ex g T)[59]? = some (.inr (.int, 150), []) := rfl
theorem z_k60 {g : List (Option Nat)} {T : m_E} : (m_Ex g T)[60]? = some (.inr (.int, 150), []) := rfl
theorem z_k61 {g : List (Option Nat)} {T : m_E} : (m_Ex g T)[61]? = some (.inr (.int, 150), []) := rfl
theorem z_k62 {g : List (Option Nat)} {T : m_E} : (m_Ex g T)[62]? = some (.inr (.int, 150), []) := rfl
theorem z_k63 {g : List (Option Nat)} {T : m_E} : (m_Ex g T)[63]? = some (.inr (.int, 150), []) := rfl
theorem z_k64 {g : List (Option Nat)} {T : m_E} : (m_Ex g T)[64]? = some (.inl 10, [some 65, some 74]) := rfl
theorem z_k65 {g : List (Option Nat)} {T : m_E} : (m_Ex g T)[65]? = some (.inr ((.array .int), 8), [some 66, some 67, some 68, some 69, some 70, some 71, some 72, some 73]) := rfl
theorem z_k66 {g : List (Option Nat)} {T : m_E} : (m_Ex g T)[66]? = some (.inr (.int, 50), []) := rfl
theorem z_k67 {g : List (Option Nat)} {T : m_E} : (m_Ex g T)[67]? = some (.inr (.int, 50), []) := rfl
theorem z_k68 {g : List (Option Nat)} {T : m_E} : (m_Ex g T)[68]? = some (.inr (.int, 50), []) := rfl
theorem z_k69 {g : List (Option Nat)} {T : m_E} : (m_Ex g T)[69]? = some (.inr (.int, 50), []) := rfl
theorem z_k70 {g : List (Option Nat)} {T : m_E} : (m_Ex g T)[70]? = some (.inr (.int, 50), []) := rfl
theorem z_k71 {g : List (Option Nat)} {T : m_E} : (m_Ex g T)[71]? = some (.inr (.int, 50), []) := rfl
theorem z_k72 {g : List (Option Nat)} {T : m_E} : (m_Ex g T)[72]? = some (.inr (.int, 50), []) := rfl
theorem z_k73 {g : List (Option Nat)} {T : m_E} : (m_Ex g T)[73]? = some (.inr (.int, 50), []) := rfl
theorem z_k74 {g : List (Option Nat)} {T : m_E} : (m_Ex g T)[74]? = some (.inr (.int, 8), []) := rfl
theorem z_k75 {g : List (Option Nat)} {T : m_E} : (m_Ex g T)[75]? = some (.inr ((.object "VirtualQueue$Line"), 8), [some 77, some 83, some 89, some 95, some 101, some 107, some 113, some 119]) := rfl
theorem z_k76 {g : List (Option Nat)} {T : m_E} : (m_Ex g T)[76]? = some (.inr ((.object "VirtualQueue$Line"), 8), [some 80, some 86, some 92, some 98, some 104, some 110, some 116, some 122]) := rfl
theorem z_k77 {g : List (Option Nat)} {T : m_E} : (m_Ex g T)[77]? = some (.inl 4, [some 78, some 79, none]) := rfl
theorem z_k78 {g : List (Option Nat)} {T : m_E} : (m_Ex g T)[78]? = some (.inr (.int, 150), []) := rfl
theorem z_k79 {g : List (Option Nat)} {T : m_E} : (m_Ex g T)[79]? = some (.inr (.int, 150), []) := rfl
theorem z_k80 {g : List (Option Nat)} {T : m_E} : (m_Ex g T)[80]? = some (.inl 4, [some 81, some 82, none]) := rfl
theorem z_k81 {g : List (Option Nat)} {T : m_E} : (m_Ex g T)[81]? = some (.inr (.int, 60), []) := rfl
theorem z_k82 {g : List (Option Nat)} {T : m_E} : (m_Ex g T)[82]? = some (.inr (.int, 60), []) := rfl
theorem z_k83 {g : List (Option Nat)} {T : m_E} : (m_Ex g T)[83]? = some (.inl 4, [some 84, some 85, none]) := rfl
theorem z_k84 {g : List (Option Nat)} {T : m_E} : (m_Ex g T)[84]? = some (.inr (.int, 150), []) := rfl
theorem z_k85 {g : List (Option Nat)} {T : m_E} : (m_Ex g T)[85]? = some (.inr (.int, 150), []) := rfl
theorem z_k86 {g : List (Option Nat)} {T : m_E} : (m_Ex g T)[86]? = some (.inl 4, [some 87, some 88, none]) := rfl
theorem z_k87 {g : List (Option Nat)} {T : m_E} : (m_Ex g T)[87]? = some (.inr (.int, 60), []) := rfl
theorem z_k88 {g : List (Option Nat)} {T : m_E} : (m_Ex g T)[88]? = some (.inr (.int, 60), []) := rfl
theorem z_k89 {g : List (Option Nat)} {T : m_E} : (m_Ex g T)[89]? = some (.inl 4, [some 90, some 91, none]) := rfl
theorem z_k90 {g : List (Option Nat)} {T : m_E} : (m_Ex g T)[90]? = some (.inr (.int, 150), []) := rfl
theorem z_k91 {g : List (Option Nat)} {T : m_E} : (m_Ex g T)[91]? = some (.inr (.int, 150), []) := rfl
theorem z_k92 {g : List (Option Nat)} {T : m_E} : (m_Ex g T)[92]? = some (.inl 4, [some 93, some 94, none]) := rfl
theorem z_k93 {g : List (Option Nat)} {T : m_E} : (m_Ex g T)[93]? = some (.inr (.int, 60), []) := rfl
theorem z_k94 {g : List (Option Nat)} {T : m_E} : (m_Ex g T)[94]? = some (.inr (.int, 60), []) := rfl
theorem z_k95 {g : List (Option Nat)} {T : m_E} : (m_Ex g T)[95]? = some (.inl 4, [some 96, some 97, none]) := rfl
theorem z_k96 {g : List (Option Nat)} {T : m_E} : (m_Ex g T)[96]? = some (.inr (.int, 150), []) := rfl
theorem z_k97 {g : List (Option Nat)} {T : m_E} : (m_Ex g T)[97]? = some (.inr (.int, 150), []) := rfl
theorem z_k98 {g : List (Option Nat)} {T : m_E} : (m_Ex g T)[98]? = some (.inl 4, [some 99, some 100, none]) := rfl
theorem z_k99 {g : List (Option Nat)} {T : m_E} : (m_Ex g T)[99]? = some (.inr (.int, 60), []) := rfl
theorem z_k100 {g : List (Option Nat)} {T : m_E} : (m_Ex g T)[100]? = some (.inr (.int, 60), []) := rfl
theorem z_k101 {g : List (Option Nat)} {T : m_E} : (m_Ex g T)[101]? = some (.inl 4, [some 102, some 103, none]) := rfl
theorem z_k102 {g : List (Option Nat)} {T : m_E} : (m_Ex g T)[102]? = some (.inr (.int, 150), []) := rfl
theorem z_k103 {g : List (Option Nat)} {T : m_E} : (m_Ex g T)[103]? = some (.inr (.int, 150), []) := rfl
theorem z_k104 {g : List (Option Nat)} {T : m_E} : (m_Ex g T)[104]? = some (.inl 4, [some 105, some 106, none]) := rfl
theorem z_k105 {g : List (Option Nat)} {T : m_E} : (m_Ex g T)[105]? = some (.inr (.int, 60), []) := rfl
theorem z_k106 {g : List (Option Nat)} {T : m_E} : (m_Ex g T)[106]? = some (.inr (.int, 60), []) := rfl
theorem z_k107 {g : List (Option Nat)} {T : m_E} : (m_Ex g T)[107]? = some (.inl 4, [some 108, some 109, none]) := rfl
theorem z_k108 {g : List (Option Nat)} {T : m_E} : (m_Ex g T)[108]? = some (.inr (.int, 150), []) := rfl
theorem z_k109 {g : List (Option Nat)} {T : m_E} : (m_Ex g T)[109]? = some (.inr (.int, 150), []) := rfl
theorem z_k110 {g : List (Option Nat)} {T : m_E} : (m_Ex g T)[110]? = some (.inl 4, [some 111, some 112, none]) := rfl
theorem z_k111 {g : List (Option Nat)} {T : m_E} : (m_Ex g T)[111]? = some (.inr (.int, 60), []) := rfl
theorem z_k112 {g : List (Option Nat)} {T : m_E} : (m_Ex g T)[112]? = some (.inr (.int, 60), []) := rfl
theorem z_k113 {g : List (Option Nat)} {T : m_E} : (m_Ex g T)[113]? = some (.inl 4, [some 114, some 115, none]) := rfl
theorem z_k114 {g : List (Option Nat)} {T : m_E} : (m_Ex g T)[114]? = some (.inr (.int, 150), []) := rfl
theorem z_k115 {g : List (Option Nat)} {T : m_E} : (m_Ex g T)[115]? = some (.inr (.int, 150), []) := rfl
theorem z_k116 {g : List (Option Nat)} {T : m_E} : (m_Ex g T)[116]? = some (.inl 4, [some 117, some 118, none]) := rfl
theorem z_k117 {g : List (Option Nat)} {T : m_E} : (m_Ex g T)[117]? = some (.inr (.int, 60), []) := rfl
theorem z_k118 {g : List (Option Nat)} {T : m_E} : (m_Ex g T)[118]? = some (.inr (.int, 60), []) := rfl
theorem z_k119 {g : List (Option Nat)} {T : m_E} : (m_Ex g T)[119]? = some (.inl 4, [some 120, some 121, none]) := rfl
theorem z_k120 {g : List (Option Nat)} {T : m_E} : (m_Ex g T)[120]? = some (.inr (.int, 150), []) := rfl
theorem z_k121 {g : List (Option Nat)} {T : m_E} : (m_Ex g T)[121]? = some (.inr (.int, 150), []) := rfl
theorem z_k122 {g : List (Option Nat)} {T : m_E} : (m_Ex g T)[122]? = some (.inl 4, [some 123, some 124, none]) := rfl
theorem z_k123 {g : List (Option Nat)} {T : m_E} : (m_Ex g T)[123]? = some (.inr (.int, 60), []) := rfl
theorem z_k124 {g : List (Option Nat)} {T : m_E} : (m_Ex g T)[124]? = some (.inr (.int, 60), []) := rfl
theorem z_k125 {g : List (Option Nat)} {T : m_E} : (m_Ex g T)[125]? = some (.inl 1, [some 126, some 127]) := rfl
theorem z_k126 {g : List (Option Nat)} {T : m_E} : (m_Ex g T)[126]? = some (.inr (.int, 144), []) := rfl
theorem z_k127 {g : List (Option Nat)} {T : m_E} : (m_Ex g T)[127]? = some (.inr (.boolean, 168), []) := rfl
theorem z_k128 {g : List (Option Nat)} {T : m_E} : (m_Ex g T)[128]? = some (.inl 6, [some 129, some 130, some 131, some 140, some 141, none, some 142, some 143, some 144]) := rfl
theorem z_k129 {g : List (Option Nat)} {T : m_E} : (m_Ex g T)[129]? = some (.inr (.int, 144), []) := rfl
theorem z_k130 {g : List (Option Nat)} {T : m_E} : (m_Ex g T)[130]? = some (.inr (.boolean, 168), []) := rfl
theorem z_k131 {g : List (Option Nat)} {T : m_E} : (m_Ex g T)[131]? = some (.inr ((.array .int), 8), [some 132, some 133, some 134, some 135, some 136, some 137, some 138, some 139]) := rfl
theorem z_k132 {g : List (Option Nat)} {T : m_E} : (m_Ex g T)[132]? = some (.inr (.int, 144), []) := rfl
theorem z_k133 {g : List (Option Nat)} {T : m_E} : (m_Ex g T)[133]? = some (.inr (.int, 144), []) := rfl
theorem z_k134 {g : List (Option Nat)} {T : m_E} : (m_Ex g T)[134]? = some (.inr (.int, 144), []) := rfl
theorem z_k135 {g : List (Option Nat)} {T : m_E} : (m_Ex g T)[135]? = some (.inr (.int, 144), []) := rfl
theorem z_k136 {g : List (Option Nat)} {T : m_E} : (m_Ex g T)[136]? = some (.inr (.int, 144), []) := rfl
theorem z_k137 {g : List (Option Nat)} {T : m_E} : (m_Ex g T)[137]? = some (.inr (.int, 144), []) := rfl
theorem z_k138 {g : List (Option Nat)} {T : m_E} : (m_Ex g T)[138]? = some (.inr (.int, 144), []) := rfl
theorem z_k139 {g : List (Option Nat)} {T : m_E} : (m_Ex g T)[139]? = some (.inr (.int, 144), []) := rfl
theorem z_k140 {g : List (Option Nat)} {T : m_E} : (m_Ex g T)[140]? = some (.inr (.int, 5), []) := rfl
theorem z_k141 {g : List (Option Nat)} {T : m_E} : (m_Ex g T)[141]? = some (.inr (.int, 5), []) := rfl
theorem z_k142 {g : List (Option Nat)} {T : m_E} : (m_Ex g T)[142]? = some (.inr (.int, 8), []) := rfl
theorem z_k143 {g : List (Option Nat)} {T : m_E} : (m_Ex g T)[143]? = some (.inr (.int, 256), []) := rfl
theorem z_k144 {g : List (Option Nat)} {T : m_E} : (m_Ex g T)[144]? = some (.inr (.boolean, 256), []) := rfl
theorem z_k145 {g : List (Option Nat)} {T : m_E} : (m_Ex g T)[145]? = some (.inr ((.object "VirtualQueue$Day"), 2), g) := rfl
theorem z_k146 {g : List (Option Nat)} {T : m_E} : (m_Ex g T)[146]? = some (.inr (.boolean, 2), []) := rfl
theorem z_k147 {g : List (Option Nat)} {T : m_E} : (m_Ex g T)[147]? = some (.inr (.byte, 64), []) := rfl
theorem z_k148 {g : List (Option Nat)} {T : m_E} : (m_Ex g T)[148]? = some (.inl 12, [some 149, some 150, none, some 151, some 152, some 153, some 154, some 155, some 156, none, some 157, none, some 158, none, none, none, none, none, none, none, none, some 159, some 160, none, none, none]) := rfl
theorem z_k149 {g : List (Option Nat)} {T : m_E} : (m_Ex g T)[149]? = some (.inr (.int, 24820), []) := rfl
theorem z_k150 {g : List (Option Nat)} {T : m_E} : (m_Ex g T)[150]? = some (.inr (.boolean, 2), []) := rfl
theorem z_k151 {g : List (Option Nat)} {T : m_E} : (m_Ex g T)[151]? = some (.inr (.int, 1152), []) := rfl
theorem z_k152 {g : List (Option Nat)} {T : m_E} : (m_Ex g T)[152]? = some (.inr (.boolean, 256), []) := rfl
theorem z_k153 {g : List (Option Nat)} {T : m_E} : (m_Ex g T)[153]? = some (.inr (.boolean, 256), []) := rfl
theorem z_k154 {g : List (Option Nat)} {T : m_E} : (m_Ex g T)[154]? = some (.inr (.int, 256), []) := rfl
theorem z_k155 {g : List (Option Nat)} {T : m_E} : (m_Ex g T)[155]? = some (.inr (.int, 5), []) := rfl
theorem z_k156 {g : List (Option Nat)} {T : m_E} : (m_Ex g T)[156]? = some (.inr (.int, 5), []) := rfl
theorem z_k157 {g : List (Option Nat)} {T : m_E} : (m_Ex g T)[157]? = some (.inr (.byte, 200), []) := rfl
theorem z_k158 {g : List (Option Nat)} {T : m_E} : (m_Ex g T)[158]? = some (.inr (.byte, 1500), []) := rfl
theorem z_k159 {g : List (Option Nat)} {T : m_E} : (m_Ex g T)[159]? = some (.inr (.int, 200), []) := rfl
theorem z_k160 {g : List (Option Nat)} {T : m_E} : (m_Ex g T)[160]? = some (.inr (.int, 200), []) := rfl
theorem z_k161 {g : List (Option Nat)} {T : m_E} : (m_Ex g T)[161]? = some (.inr (.long, 1), []) := rfl
theorem z_k162 {g : List (Option Nat)} {T : m_E} : (m_Ex g T)[162]? = some (.inr (.double, 1), []) := rfl
theorem z_kg65 {i : Int} (h : 0 ≤ i ∧ i < 8) : [some 66, some 67, some 68, some 69, some 70, some 71, some 72, some 73].getD i.toNat none = some (66 + i.toNat) := by
  obtain ⟨k, hk, e⟩ : ∃ k : Nat, k < 8 ∧ i.toNat = k := ⟨i.toNat, by omega, rfl⟩
  rw [e]
  match k, hk with
  | 0, _ => rfl
  | 1, _ => rfl
  | 2, _ => rfl
  | 3, _ => rfl
  | 4, _ => rfl
  | 5, _ => rfl
  | 6, _ => rfl
  | 7, _ => rfl
theorem z_ka65 {g : List (Option Nat)} {T : m_E} {i : Int} (h : 0 ≤ i ∧ i < 8) : (m_Ex g T)[66 + i.toNat]? = some (.inr (.int, 50), []) := by
  obtain ⟨k, hk, e⟩ : ∃ k : Nat, k < 8 ∧ i.toNat = k := ⟨i.toNat, by omega, rfl⟩
  rw [e]
  match k, hk with
  | 0, _ => rfl
  | 1, _ => rfl
  | 2, _ => rfl
  | 3, _ => rfl
  | 4, _ => rfl
  | 5, _ => rfl
  | 6, _ => rfl
  | 7, _ => rfl
theorem z_kg75 {i : Int} (h : 0 ≤ i ∧ i < 8) : [some 77, some 83, some 89, some 95, some 101, some 107, some 113, some 119].getD i.toNat none = some (77 + 6 * i.toNat) := by
  obtain ⟨k, hk, e⟩ : ∃ k : Nat, k < 8 ∧ i.toNat = k := ⟨i.toNat, by omega, rfl⟩
  rw [e]
  match k, hk with
  | 0, _ => rfl
  | 1, _ => rfl
  | 2, _ => rfl
  | 3, _ => rfl
  | 4, _ => rfl
  | 5, _ => rfl
  | 6, _ => rfl
  | 7, _ => rfl
theorem z_ka75 {g : List (Option Nat)} {T : m_E} {i : Int} (h : 0 ≤ i ∧ i < 8) : (m_Ex g T)[77 + 6 * i.toNat]? = some (.inl 4, [some (78 + 6 * i.toNat), some (79 + 6 * i.toNat), none]) := by
  obtain ⟨k, hk, e⟩ : ∃ k : Nat, k < 8 ∧ i.toNat = k := ⟨i.toNat, by omega, rfl⟩
  rw [e]
  match k, hk with
  | 0, _ => rfl
  | 1, _ => rfl
  | 2, _ => rfl
  | 3, _ => rfl
  | 4, _ => rfl
  | 5, _ => rfl
  | 6, _ => rfl
  | 7, _ => rfl
theorem z_ka75_1 {g : List (Option Nat)} {T : m_E} {i : Int} (h : 0 ≤ i ∧ i < 8) : (m_Ex g T)[78 + 6 * i.toNat]? = some (.inr (.int, 150), []) := by
  obtain ⟨k, hk, e⟩ : ∃ k : Nat, k < 8 ∧ i.toNat = k := ⟨i.toNat, by omega, rfl⟩
  rw [e]
  match k, hk with
  | 0, _ => rfl
  | 1, _ => rfl
  | 2, _ => rfl
  | 3, _ => rfl
  | 4, _ => rfl
  | 5, _ => rfl
  | 6, _ => rfl
  | 7, _ => rfl
theorem z_ka75_2 {g : List (Option Nat)} {T : m_E} {i : Int} (h : 0 ≤ i ∧ i < 8) : (m_Ex g T)[79 + 6 * i.toNat]? = some (.inr (.int, 150), []) := by
  obtain ⟨k, hk, e⟩ : ∃ k : Nat, k < 8 ∧ i.toNat = k := ⟨i.toNat, by omega, rfl⟩
  rw [e]
  match k, hk with
  | 0, _ => rfl
  | 1, _ => rfl
  | 2, _ => rfl
  | 3, _ => rfl
  | 4, _ => rfl
  | 5, _ => rfl
  | 6, _ => rfl
  | 7, _ => rfl
theorem z_kg76 {i : Int} (h : 0 ≤ i ∧ i < 8) : [some 80, some 86, some 92, some 98, some 104, some 110, some 116, some 122].getD i.toNat none = some (80 + 6 * i.toNat) := by
  obtain ⟨k, hk, e⟩ : ∃ k : Nat, k < 8 ∧ i.toNat = k := ⟨i.toNat, by omega, rfl⟩
  rw [e]
  match k, hk with
  | 0, _ => rfl
  | 1, _ => rfl
  | 2, _ => rfl
  | 3, _ => rfl
  | 4, _ => rfl
  | 5, _ => rfl
  | 6, _ => rfl
  | 7, _ => rfl
theorem z_ka76 {g : List (Option Nat)} {T : m_E} {i : Int} (h : 0 ≤ i ∧ i < 8) : (m_Ex g T)[80 + 6 * i.toNat]? = some (.inl 4, [some (81 + 6 * i.toNat), some (82 + 6 * i.toNat), none]) := by
  obtain ⟨k, hk, e⟩ : ∃ k : Nat, k < 8 ∧ i.toNat = k := ⟨i.toNat, by omega, rfl⟩
  rw [e]
  match k, hk with
  | 0, _ => rfl
  | 1, _ => rfl
  | 2, _ => rfl
  | 3, _ => rfl
  | 4, _ => rfl
  | 5, _ => rfl
  | 6, _ => rfl
  | 7, _ => rfl
theorem z_ka76_1 {g : List (Option Nat)} {T : m_E} {i : Int} (h : 0 ≤ i ∧ i < 8) : (m_Ex g T)[81 + 6 * i.toNat]? = some (.inr (.int, 60), []) := by
  obtain ⟨k, hk, e⟩ : ∃ k : Nat, k < 8 ∧ i.toNat = k := ⟨i.toNat, by omega, rfl⟩
  rw [e]
  match k, hk with
  | 0, _ => rfl
  | 1, _ => rfl
  | 2, _ => rfl
  | 3, _ => rfl
  | 4, _ => rfl
  | 5, _ => rfl
  | 6, _ => rfl
  | 7, _ => rfl
theorem z_ka76_2 {g : List (Option Nat)} {T : m_E} {i : Int} (h : 0 ≤ i ∧ i < 8) : (m_Ex g T)[82 + 6 * i.toNat]? = some (.inr (.int, 60), []) := by
  obtain ⟨k, hk, e⟩ : ∃ k : Nat, k < 8 ∧ i.toNat = k := ⟨i.toNat, by omega, rfl⟩
  rw [e]
  match k, hk with
  | 0, _ => rfl
  | 1, _ => rfl
  | 2, _ => rfl
  | 3, _ => rfl
  | 4, _ => rfl
  | 5, _ => rfl
  | 6, _ => rfl
  | 7, _ => rfl
theorem z_kg131 {i : Int} (h : 0 ≤ i ∧ i < 8) : [some 132, some 133, some 134, some 135, some 136, some 137, some 138, some 139].getD i.toNat none = some (132 + i.toNat) := by
  obtain ⟨k, hk, e⟩ : ∃ k : Nat, k < 8 ∧ i.toNat = k := ⟨i.toNat, by omega, rfl⟩
  rw [e]
  match k, hk with
  | 0, _ => rfl
  | 1, _ => rfl
  | 2, _ => rfl
  | 3, _ => rfl
  | 4, _ => rfl
  | 5, _ => rfl
  | 6, _ => rfl
  | 7, _ => rfl
theorem z_ka131 {g : List (Option Nat)} {T : m_E} {i : Int} (h : 0 ≤ i ∧ i < 8) : (m_Ex g T)[132 + i.toNat]? = some (.inr (.int, 144), []) := by
  obtain ⟨k, hk, e⟩ : ∃ k : Nat, k < 8 ∧ i.toNat = k := ⟨i.toNat, by omega, rfl⟩
  rw [e]
  match k, hk with
  | 0, _ => rfl
  | 1, _ => rfl
  | 2, _ => rfl
  | 3, _ => rfl
  | 4, _ => rfl
  | 5, _ => rfl
  | 6, _ => rfl
  | 7, _ => rfl
/-! bits, and the order of longs -/
def z_and (x y : Int) : Int := (Int32.ofInt x &&& Int32.ofInt y).toInt
def z_or (x y : Int) : Int := (Int32.ofInt x ||| Int32.ofInt y).toInt
def z_xor (x y : Int) : Int := (Int32.ofInt x ^^^ Int32.ofInt y).toInt
def z_shl (x y : Int) : Int := (Int32.ofInt x <<< (Int32.ofInt y &&& 31)).toInt
def z_shr (x y : Int) : Int := (Int32.ofInt x >>> (Int32.ofInt y &&& 31)).toInt
def z_ushr (x y : Int) : Int := ((Int32.ofInt x).toUInt32 >>> ((Int32.ofInt y).toUInt32 &&& Int32.toUInt32 31)).toInt32.toInt
def z_lshl (x y : Int) : Int := (Int64.ofInt x <<< ((Int32.ofInt y).toInt64 &&& 63)).toInt
theorem z_c_eq {x y : Int} : (if y < x then (1 : Int) else if x = y then 0 else -1) = 0 ↔ x = y := by
  split
  · omega
  · split <;> omega
theorem z_c_ne {x y : Int} : (if y < x then (1 : Int) else if x = y then 0 else -1) ≠ 0 ↔ x ≠ y := by
  split
  · omega
  · split <;> omega
theorem z_c_lt {x y : Int} : (if y < x then (1 : Int) else if x = y then 0 else -1) < 0 ↔ x < y := by
  split
  · omega
  · split <;> omega
theorem z_c_ge {x y : Int} : 0 ≤ (if y < x then (1 : Int) else if x = y then 0 else -1) ↔ y ≤ x := by
  split
  · omega
  · split <;> omega
theorem z_c_gt {x y : Int} : 0 < (if y < x then (1 : Int) else if x = y then 0 else -1) ↔ y < x := by
  split
  · omega
  · split <;> omega
theorem z_c_le {x y : Int} : (if y < x then (1 : Int) else if x = y then 0 else -1) ≤ 0 ↔ x ≤ y := by
  split
  · omega
  · split <;> omega
/-- a call in place -/
theorem z_inl {l : Launch} {d a bc bs : Nat} {vs : z_V} {S : z_S} {K : z_O → z_S → Nat → Nat → Prop} {M : m_Meth} (hM : m_M[a]? = some M) (hok : m_okM M) (hlen : (z_args0 vs).length ≤ M.2.2.1) (h : ∀ Wp : Nat → z_C, z_Cl l d M (fun o S' => K o S' bc bs) Wp → Wp 0 (z_args M.2.2.1 vs) [] S 0 0) : z_Call l (d + 1) a vs S bc bs K := ⟨0, 0, _, z_sem_of hM hok hlen (fun Wp hs _ _ => h Wp hs), Nat.zero_le _, Nat.zero_le _, fun _ _ _ hq => hq⟩
theorem z_inlT {l : Launch} {d a bc bs : Nat} {vs : z_V} {S : z_S} {K : z_O → z_S → Nat → Nat → Prop} {M : m_Meth} (hb : 1 ≤ bc ∧ 6 ≤ bs) (hM : m_M[a]? = some M) (hok : m_okM M) (hlen : (z_args0 vs).length ≤ M.2.2.1) (h : ∀ Wp : Nat → z_C, z_Cl l d M (fun o S' => K o S' (bc - 1) (bs - 6)) Wp → Wp 0 (z_args M.2.2.1 vs) [] S 1 6) : z_Call l (d + 1) a vs S bc bs K := ⟨1, 6, _, z_sem_of hM hok hlen (fun Wp hs _ _ => h Wp hs), hb.1, hb.2, fun _ _ _ hq => hq⟩
