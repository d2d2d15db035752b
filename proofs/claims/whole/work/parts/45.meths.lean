/-! the methods by number (written by wip/whole/vc.py) -/
set_option maxRecDepth 100000 in
theorem z_m0 : m_M[0]? = some m_me_0 := rfl
set_option maxRecDepth 100000 in
theorem z_m1 : m_M[1]? = some m_me_1 := rfl
set_option maxRecDepth 100000 in
theorem z_m2 : m_M[2]? = some m_me_2 := rfl
set_option maxRecDepth 100000 in
theorem z_m3 : m_M[3]? = some m_me_3 := rfl
set_option maxRecDepth 100000 in
theorem z_m4 : m_M[4]? = some m_me_4 := rfl
set_option maxRecDepth 100000 in
theorem z_m5 : m_M[5]? = some m_me_5 := rfl
set_option maxRecDepth 100000 in
theorem z_m6 : m_M[6]? = some m_me_6 := rfl
set_option maxRecDepth 100000 in
theorem z_m7 : m_M[7]? = some m_me_7 := rfl
set_option maxRecDepth 100000 in
theorem z_m8 : m_M[8]? = some m_me_8 := rfl
set_option maxRecDepth 100000 in
theorem z_m9 : m_M[9]? = some m_me_9 := rfl
set_option maxRecDepth 100000 in
theorem z_m10 : m_M[10]? = some m_me_10 := rfl
set_option maxRecDepth 100000 in
theorem z_m11 : m_M[11]? = some m_me_11 := rfl
set_option maxRecDepth 100000 in
theorem z_m12 : m_M[12]? = some m_me_12 := rfl
set_option maxRecDepth 100000 in
theorem z_m13 : m_M[13]? = some m_me_13 := rfl
set_option maxRecDepth 100000 in
theorem z_m14 : m_M[14]? = some m_me_14 := rfl
set_option maxRecDepth 100000 in
theorem z_m15 : m_M[15]? = some m_me_15 := rfl
set_option maxRecDepth 100000 in
theorem z_m16 : m_M[16]? = some m_me_16 := rfl
set_option maxRecDepth 100000 in
theorem z_m17 : m_M[17]? = some m_me_17 := rfl
set_option maxRecDepth 100000 in
theorem z_m18 : m_M[18]? = some m_me_18 := rfl
set_option maxRecDepth 100000 in
theorem z_m19 : m_M[19]? = some m_me_19 := rfl
set_option maxRecDepth 100000 in
theorem z_m20 : m_M[20]? = some m_me_20 := rfl
set_option maxRecDepth 100000 in
theorem z_m21 : m_M[21]? = some m_me_21 := rfl
set_option maxRecDepth 100000 in
theorem z_m22 : m_M[22]? = some m_me_22 := rfl
set_option maxRecDepth 100000 in
theorem z_m23 : m_M[23]? = some m_me_23 := rfl
set_option maxRecDepth 100000 in
theorem z_m24 : m_M[24]? = some m_me_24 := rfl
set_option maxRecDepth 100000 in
theorem z_m25 : m_M[25]? = some m_me_25 := rfl
set_option maxRecDepth 100000 in
theorem z_m26 : m_M[26]? = some m_me_26 := rfl
set_option maxRecDepth 100000 in
theorem z_m27 : m_M[27]? = some m_me_27 := rfl
set_option maxRecDepth 100000 in
theorem z_m28 : m_M[28]? = some m_me_28 := rfl
set_option maxRecDepth 100000 in
theorem z_m29 : m_M[29]? = some m_me_29 := rfl
set_option maxRecDepth 100000 in
theorem z_m30 : m_M[30]? = some m_me_30 := rfl
set_option maxRecDepth 100000 in
theorem z_m31 : m_M[31]? = some m_me_31 := rfl
set_option maxRecDepth 100000 in
theorem z_m32 : m_M[32]? = some m_me_32 := rfl
set_option maxRecDepth 100000 in
theorem z_m33 : m_M[33]? = some m_me_33 := rfl
set_option maxRecDepth 100000 in
theorem z_m34 : m_M[34]? = some m_me_34 := rfl
set_option maxRecDepth 100000 in
theorem z_m35 : m_M[35]? = some m_me_35 := rfl
set_option maxRecDepth 100000 in
theorem z_m36 : m_M[36]? = some m_me_36 := rfl
set_option maxRecDepth 100000 in
theorem z_m37 : m_M[37]? = some m_me_37 := rfl
set_option maxRecDepth 100000 in
theorem z_m38 : m_M[38]? = some m_me_38 := rfl
set_option maxRecDepth 100000 in
theorem z_m39 : m_M[39]? = some m_me_39 := rfl
set_option maxRecDepth 100000 in
theorem z_m40 : m_M[40]? = some m_me_40 := rfl
set_option maxRecDepth 100000 in
theorem z_m41 : m_M[41]? = some m_me_41 := rfl
set_option maxRecDepth 100000 in
theorem z_m42 : m_M[42]? = some m_me_42 := rfl
set_option maxRecDepth 100000 in
theorem z_m43 : m_M[43]? = some m_me_43 := rfl
set_option maxRecDepth 100000 in
theorem z_m44 : m_M[44]? = some m_me_44 := rfl
set_option maxRecDepth 100000 in
theorem z_m45 : m_M[45]? = some m_me_45 := rfl
set_option maxRecDepth 100000 in
theorem z_m46 : m_M[46]? = some m_me_46 := rfl
set_option maxRecDepth 100000 in
theorem z_m47 : m_M[47]? = some m_me_47 := rfl
set_option maxRecDepth 100000 in
theorem z_m48 : m_M[48]? = some m_me_48 := rfl
set_option maxRecDepth 100000 in
theorem z_m49 : m_M[49]? = some m_me_49 := rfl
set_option maxRecDepth 100000 in
theorem z_m50 : m_M[50]? = some m_me_50 := rfl
set_option maxRecDepth 100000 in
theorem z_m51 : m_M[51]? = some m_me_51 := rfl
set_option maxRecDepth 100000 in
theorem z_m52 : m_M[52]? = some m_me_52 := rfl
set_option maxRecDepth 100000 in
theorem z_m53 : m_M[53]? = some m_me_53 := rfl
set_option maxRecDepth 100000 in
theorem z_m54 : m_M[54]? = some m_me_54 := rfl
set_option maxRecDepth 100000 in
theorem z_m55 : m_M[55]? = some m_me_55 := rfl
set_option maxRecDepth 100000 in
theorem z_m56 : m_M[56]? = some m_me_56 := rfl
set_option maxRecDepth 100000 in
theorem z_m57 : m_M[57]? = some m_me_57 := rfl
set_option maxRecDepth 100000 in
theorem z_m58 : m_M[58]? = some m_me_58 := rfl
set_option maxRecDepth 100000 in
theorem z_m59 : m_M[59]? = some m_me_59 := rfl
set_option maxRecDepth 100000 in
theorem z_m60 : m_M[60]? = some m_me_60 := rfl
set_option maxRecDepth 100000 in
theorem z_m61 : m_M[61]? = some m_me_61 := rfl
set_option maxRecDepth 100000 in
theorem z_m62 : m_M[62]? = some m_me_62 := rfl
set_option maxRecDepth 100000 in
theorem z_m63 : m_M[63]? = some m_me_63 := rfl
set_option maxRecDepth 100000 in
theorem z_m64 : m_M[64]? = some m_me_64 := rfl
set_option maxRecDepth 100000 in
theorem z_m65 : m_M[65]? = some m_me_65 := rfl
set_option maxRecDepth 100000 in
theorem z_m66 : m_M[66]? = some m_me_66 := rfl
set_option maxRecDepth 100000 in
theorem z_m67 : m_M[67]? = some m_me_67 := rfl
set_option maxRecDepth 100000 in
theorem z_m68 : m_M[68]? = some m_me_68 := rfl
set_option maxRecDepth 100000 in
theorem z_m69 : m_M[69]? = some m_me_69 := rfl
set_option maxRecDepth 100000 in
theorem z_m70 : m_M[70]? = some m_me_70 := rfl
set_option maxRecDepth 100000 in
theorem z_m71 : m_M[71]? = some m_me_71 := rfl
set_option maxRecDepth 100000 in
theorem z_m72 : m_M[72]? = some m_me_72 := rfl
set_option maxRecDepth 100000 in
theorem z_m73 : m_M[73]? = some m_me_73 := rfl
set_option maxRecDepth 100000 in
theorem z_m74 : m_M[74]? = some m_me_74 := rfl
set_option maxRecDepth 100000 in
theorem z_m75 : m_M[75]? = some m_me_75 := rfl
set_option maxRecDepth 100000 in
theorem z_m76 : m_M[76]? = some m_me_76 := rfl
set_option maxRecDepth 100000 in
theorem z_m77 : m_M[77]? = some m_me_77 := rfl
set_option maxRecDepth 100000 in
theorem z_m78 : m_M[78]? = some m_me_78 := rfl
set_option maxRecDepth 100000 in
theorem z_m79 : m_M[79]? = some m_me_79 := rfl
set_option maxRecDepth 100000 in
theorem z_m80 : m_M[80]? = some m_me_80 := rfl
set_option maxRecDepth 100000 in
theorem z_m81 : m_M[81]? = some m_me_81 := rfl
set_option maxRecDepth 100000 in
theorem z_m82 : m_M[82]? = some m_me_82 := rfl
set_option maxRecDepth 100000 in
theorem z_m83 : m_M[83]? = some m_me_83 := rfl
set_option maxRecDepth 100000 in
theorem z_m84 : m_M[84]? = some m_me_84 := rfl
set_option maxRecDepth 100000 in
theorem z_m85 : m_M[85]? = some m_me_85 := rfl
set_option maxRecDepth 100000 in
theorem z_m86 : m_M[86]? = some m_me_86 := rfl
set_option maxRecDepth 100000 in
theorem z_m87 : m_M[87]? = some m_me_87 := rfl
set_option maxRecDepth 100000 in
theorem z_m88 : m_M[88]? = some m_me_88 := rfl
set_option maxRecDepth 100000 in
theorem z_m89 : m_M[89]? = some m_me_89 := rfl
set_option maxRecDepth 100000 in
theorem z_m90 : m_M[90]? = some m_me_90 := rfl
set_option maxRecDepth 100000 in
theorem z_m91 : m_M[91]? = some m_me_91 := rfl
set_option maxRecDepth 100000 in
theorem z_m92 : m_M[92]? = some m_me_92 := rfl
set_option maxRecDepth 100000 in
theorem z_m93 : m_M[93]? = some m_me_93 := rfl
set_option maxRecDepth 100000 in
theorem z_m94 : m_M[94]? = some m_me_94 := rfl
set_option maxRecDepth 100000 in
theorem z_m95 : m_M[95]? = some m_me_95 := rfl
set_option maxRecDepth 100000 in
theorem z_m96 : m_M[96]? = some m_me_96 := rfl
set_option maxRecDepth 100000 in
theorem z_m97 : m_M[97]? = some m_me_97 := rfl
set_option maxRecDepth 100000 in
theorem z_m98 : m_M[98]? = some m_me_98 := rfl
set_option maxRecDepth 100000 in
theorem z_m99 : m_M[99]? = some m_me_99 := rfl
set_option maxRecDepth 100000 in
theorem z_m100 : m_M[100]? = some m_me_100 := rfl
set_option maxRecDepth 100000 in
theorem z_m101 : m_M[101]? = some m_me_101 := rfl
set_option maxRecDepth 100000 in
theorem z_m102 : m_M[102]? = some m_me_102 := rfl
set_option maxRecDepth 100000 in
theorem z_m103 : m_M[103]? = some m_me_103 := rfl
set_option maxRecDepth 100000 in
theorem z_m104 : m_M[104]? = some m_me_104 := rfl
set_option maxRecDepth 100000 in
theorem z_m105 : m_M[105]? = some m_me_105 := rfl
set_option maxRecDepth 100000 in
theorem z_m106 : m_M[106]? = some m_me_106 := rfl
set_option maxRecDepth 100000 in
theorem z_m107 : m_M[107]? = some m_me_107 := rfl
set_option maxRecDepth 100000 in
theorem z_m108 : m_M[108]? = some m_me_108 := rfl
set_option maxRecDepth 100000 in
theorem z_m109 : m_M[109]? = some m_me_109 := rfl
set_option maxRecDepth 100000 in
theorem z_m110 : m_M[110]? = some m_me_110 := rfl
set_option maxRecDepth 100000 in
theorem z_m111 : m_M[111]? = some m_me_111 := rfl
set_option maxRecDepth 100000 in
theorem z_m112 : m_M[112]? = some m_me_112 := rfl
set_option maxRecDepth 100000 in
theorem z_m113 : m_M[113]? = some m_me_113 := rfl
set_option maxRecDepth 100000 in
theorem z_m114 : m_M[114]? = some m_me_114 := rfl
set_option maxRecDepth 100000 in
theorem z_m115 : m_M[115]? = some m_me_115 := rfl
set_option maxRecDepth 100000 in
theorem z_m116 : m_M[116]? = some m_me_116 := rfl
set_option maxRecDepth 100000 in
theorem z_m117 : m_M[117]? = some m_me_117 := rfl
set_option maxRecDepth 100000 in
theorem z_m118 : m_M[118]? = some m_me_118 := rfl
set_option maxRecDepth 100000 in
theorem z_m119 : m_M[119]? = some m_me_119 := rfl
set_option maxRecDepth 100000 in
theorem z_m120 : m_M[120]? = some m_me_120 := rfl
set_option maxRecDepth 100000 in
theorem z_m121 : m_M[121]? = some m_me_121 := rfl
set_option maxRecDepth 100000 in
theorem z_m122 : m_M[122]? = some m_me_122 := rfl
set_option maxRecDepth 100000 in
theorem z_m123 : m_M[123]? = some m_me_123 := rfl
set_option maxRecDepth 100000 in
theorem z_m124 : m_M[124]? = some m_me_124 := rfl
set_option maxRecDepth 100000 in
theorem z_m125 : m_M[125]? = some m_me_125 := rfl
set_option maxRecDepth 100000 in
theorem z_m126 : m_M[126]? = some m_me_126 := rfl
set_option maxRecDepth 100000 in
theorem z_m127 : m_M[127]? = some m_me_127 := rfl
set_option maxRecDepth 100000 in
theorem z_m128 : m_M[128]? = some m_me_128 := rfl
set_option maxRecDepth 100000 in
theorem z_m129 : m_M[129]? = some m_me_129 := rfl
set_option maxRecDepth 100000 in
theorem z_m130 : m_M[130]? = some m_me_130 := rfl
set_option maxRecDepth 100000 in
theorem z_m131 : m_M[131]? = some m_me_131 := rfl
set_option maxRecDepth 100000 in
theorem z_m132 : m_M[132]? = some m_me_132 := rfl
set_option maxRecDepth 100000 in
theorem z_m133 : m_M[133]? = some m_me_133 := rfl
set_option maxRecDepth 100000 in
theorem z_m134 : m_M[134]? = some m_me_134 := rfl
set_option maxRecDepth 100000 in
theorem z_m135 : m_M[135]? = some m_me_135 := rfl
set_option maxRecDepth 100000 in
theorem z_m136 : m_M[136]? = some m_me_136 := rfl
set_option maxRecDepth 100000 in
theorem z_m137 : m_M[137]? = some m_me_137 := rfl
set_option maxRecDepth 100000 in
theorem z_m138 : m_M[138]? = some m_me_138 := rfl
set_option maxRecDepth 100000 in
theorem z_m139 : m_M[139]? = some m_me_139 := rfl
set_option maxRecDepth 100000 in
theorem z_m140 : m_M[140]? = some m_me_140 := rfl
set_option maxRecDepth 100000 in
theorem z_m141 : m_M[141]? = some m_me_141 := rfl
set_option maxRecDepth 100000 in
theorem z_m142 : m_M[142]? = some m_me_142 := rfl
set_option maxRecDepth 100000 in
theorem z_m143 : m_M[143]? = some m_me_143 := rfl
set_option maxRecDepth 100000 in
theorem z_m144 : m_M[144]? = some m_me_144 := rfl
set_option maxRecDepth 100000 in
theorem z_m145 : m_M[145]? = some m_me_145 := rfl
set_option maxRecDepth 100000 in
theorem z_m146 : m_M[146]? = some m_me_146 := rfl
set_option maxRecDepth 100000 in
theorem z_m147 : m_M[147]? = some m_me_147 := rfl
set_option maxRecDepth 100000 in
theorem z_m148 : m_M[148]? = some m_me_148 := rfl
set_option maxRecDepth 100000 in
theorem z_m149 : m_M[149]? = some m_me_149 := rfl
set_option maxRecDepth 100000 in
theorem z_m150 : m_M[150]? = some m_me_150 := rfl
set_option maxRecDepth 100000 in
theorem z_m151 : m_M[151]? = some m_me_151 := rfl
set_option maxRecDepth 100000 in
theorem z_m152 : m_M[152]? = some m_me_152 := rfl
set_option maxRecDepth 100000 in
theorem z_m153 : m_M[153]? = some m_me_153 := rfl
set_option maxRecDepth 100000 in
theorem z_m154 : m_M[154]? = some m_me_154 := rfl
set_option maxRecDepth 100000 in
theorem z_m155 : m_M[155]? = some m_me_155 := rfl
set_option maxRecDepth 100000 in
theorem z_m156 : m_M[156]? = some m_me_156 := rfl
set_option maxRecDepth 100000 in
theorem z_m157 : m_M[157]? = some m_me_157 := rfl
set_option maxRecDepth 100000 in
theorem z_m158 : m_M[158]? = some m_me_158 := rfl
set_option maxRecDepth 100000 in
theorem z_m159 : m_M[159]? = some m_me_159 := rfl
set_option maxRecDepth 100000 in
theorem z_m160 : m_M[160]? = some m_me_160 := rfl
set_option maxRecDepth 100000 in
theorem z_m161 : m_M[161]? = some m_me_161 := rfl
set_option maxRecDepth 100000 in
theorem z_m162 : m_M[162]? = some m_me_162 := rfl
set_option maxRecDepth 100000 in
theorem z_m163 : m_M[163]? = some m_me_163 := rfl
set_option maxRecDepth 100000 in
theorem z_m164 : m_M[164]? = some m_me_164 := rfl
set_option maxRecDepth 100000 in
theorem z_m165 : m_M[165]? = some m_me_165 := rfl
set_option maxRecDepth 100000 in
theorem z_m166 : m_M[166]? = some m_me_166 := rfl
set_option maxRecDepth 100000 in
theorem z_m167 : m_M[167]? = some m_me_167 := rfl
set_option maxRecDepth 100000 in
theorem z_m168 : m_M[168]? = some m_me_168 := rfl
set_option maxRecDepth 100000 in
theorem z_m169 : m_M[169]? = some m_me_169 := rfl
set_option maxRecDepth 100000 in
theorem z_m170 : m_M[170]? = some m_me_170 := rfl
set_option maxRecDepth 100000 in
theorem z_m171 : m_M[171]? = some m_me_171 := rfl
set_option maxRecDepth 100000 in
theorem z_m172 : m_M[172]? = some m_me_172 := rfl
set_option maxRecDepth 100000 in
theorem z_m173 : m_M[173]? = some m_me_173 := rfl
set_option maxRecDepth 100000 in
theorem z_m174 : m_M[174]? = some m_me_174 := rfl
set_option maxRecDepth 100000 in
theorem z_m175 : m_M[175]? = some m_me_175 := rfl
set_option maxRecDepth 100000 in
theorem z_m176 : m_M[176]? = some m_me_176 := rfl
set_option maxRecDepth 100000 in
theorem z_m177 : m_M[177]? = some m_me_177 := rfl
set_option maxRecDepth 100000 in
theorem z_m178 : m_M[178]? = some m_me_178 := rfl
set_option maxRecDepth 100000 in
theorem z_m179 : m_M[179]? = some m_me_179 := rfl
set_option maxRecDepth 100000 in
theorem z_m180 : m_M[180]? = some m_me_180 := rfl
set_option maxRecDepth 100000 in
theorem z_m181 : m_M[181]? = some m_me_181 := rfl
set_option maxRecDepth 100000 in
theorem z_m182 : m_M[182]? = some m_me_182 := rfl
set_option maxRecDepth 100000 in
theorem z_m183 : m_M[183]? = some m_me_183 := rfl
set_option maxRecDepth 100000 in
theorem z_m184 : m_M[184]? = some m_me_184 := rfl
set_option maxRecDepth 100000 in
theorem z_m185 : m_M[185]? = some m_me_185 := rfl
set_option maxRecDepth 100000 in
theorem z_m186 : m_M[186]? = some m_me_186 := rfl
set_option maxRecDepth 100000 in
theorem z_m187 : m_M[187]? = some m_me_187 := rfl
set_option maxRecDepth 100000 in
theorem z_m188 : m_M[188]? = some m_me_188 := rfl
set_option maxRecDepth 100000 in
theorem z_m189 : m_M[189]? = some m_me_189 := rfl
set_option maxRecDepth 100000 in
theorem z_m190 : m_M[190]? = some m_me_190 := rfl
set_option maxRecDepth 100000 in
theorem z_m191 : m_M[191]? = some m_me_191 := rfl
set_option maxRecDepth 100000 in
theorem z_m192 : m_M[192]? = some m_me_192 := rfl
set_option maxRecDepth 100000 in
theorem z_m193 : m_M[193]? = some m_me_193 := rfl
set_option maxRecDepth 100000 in
theorem z_m194 : m_M[194]? = some m_me_194 := rfl
set_option maxRecDepth 100000 in
theorem z_m195 : m_M[195]? = some m_me_195 := rfl
set_option maxRecDepth 100000 in
theorem z_m196 : m_M[196]? = some m_me_196 := rfl
set_option maxRecDepth 100000 in
theorem z_m197 : m_M[197]? = some m_me_197 := rfl
set_option maxRecDepth 100000 in
theorem z_m198 : m_M[198]? = some m_me_198 := rfl
set_option maxRecDepth 100000 in
theorem z_m199 : m_M[199]? = some m_me_199 := rfl
set_option maxRecDepth 100000 in
theorem z_m200 : m_M[200]? = some m_me_200 := rfl
set_option maxRecDepth 100000 in
theorem z_m201 : m_M[201]? = some m_me_201 := rfl
set_option maxRecDepth 100000 in
theorem z_m202 : m_M[202]? = some m_me_202 := rfl
set_option maxRecDepth 100000 in
theorem z_m203 : m_M[203]? = some m_me_203 := rfl
set_option maxRecDepth 100000 in
theorem z_m204 : m_M[204]? = some m_me_204 := rfl
set_option maxRecDepth 100000 in
theorem z_m205 : m_M[205]? = some m_me_205 := rfl
set_option maxRecDepth 100000 in
theorem z_m206 : m_M[206]? = some m_me_206 := rfl
set_option maxRecDepth 100000 in
theorem z_m207 : m_M[207]? = some m_me_207 := rfl
set_option maxRecDepth 100000 in
theorem z_m208 : m_M[208]? = some m_me_208 := rfl
set_option maxRecDepth 100000 in
theorem z_m209 : m_M[209]? = some m_me_209 := rfl
set_option maxRecDepth 100000 in
theorem z_m210 : m_M[210]? = some m_me_210 := rfl
set_option maxRecDepth 100000 in
theorem z_m211 : m_M[211]? = some m_me_211 := rfl
set_option maxRecDepth 100000 in
theorem z_m212 : m_M[212]? = some m_me_212 := rfl
set_option maxRecDepth 100000 in
theorem z_m213 : m_M[213]? = some m_me_213 := rfl
set_option maxRecDepth 100000 in
theorem z_m214 : m_M[214]? = some m_me_214 := rfl
set_option maxRecDepth 100000 in
theorem z_m215 : m_M[215]? = some m_me_215 := rfl
set_option maxRecDepth 100000 in
theorem z_m216 : m_M[216]? = some m_me_216 := rfl
set_option maxRecDepth 100000 in
theorem z_m217 : m_M[217]? = some m_me_217 := rfl
set_option maxRecDepth 100000 in
theorem z_m218 : m_M[218]? = some m_me_218 := rfl
set_option maxRecDepth 100000 in
theorem z_m219 : m_M[219]? = some m_me_219 := rfl
set_option maxRecDepth 100000 in
theorem z_m220 : m_M[220]? = some m_me_220 := rfl
set_option maxRecDepth 100000 in
theorem z_m221 : m_M[221]? = some m_me_221 := rfl
set_option maxRecDepth 100000 in
theorem z_m222 : m_M[222]? = some m_me_222 := rfl
set_option maxRecDepth 100000 in
theorem z_m223 : m_M[223]? = some m_me_223 := rfl
set_option maxRecDepth 100000 in
theorem z_m224 : m_M[224]? = some m_me_224 := rfl
set_option maxRecDepth 100000 in
theorem z_m225 : m_M[225]? = some m_me_225 := rfl
set_option maxRecDepth 100000 in
theorem z_m226 : m_M[226]? = some m_me_226 := rfl
set_option maxRecDepth 100000 in
theorem z_m227 : m_M[227]? = some m_me_227 := rfl
set_option maxRecDepth 100000 in
theorem z_m228 : m_M[228]? = some m_me_228 := rfl
set_option maxRecDepth 100000 in
theorem z_m229 : m_M[229]? = some m_me_229 := rfl
set_option maxRecDepth 100000 in
theorem z_m230 : m_M[230]? = some m_me_230 := rfl
set_option maxRecDepth 100000 in
theorem z_m231 : m_M[231]? = some m_me_231 := rfl
set_option maxRecDepth 100000 in
theorem z_m232 : m_M[232]? = some m_me_232 := rfl
set_option maxRecDepth 100000 in
theorem z_m233 : m_M[233]? = some m_me_233 := rfl
set_option maxRecDepth 100000 in
theorem z_m234 : m_M[234]? = some m_me_234 := rfl
set_option maxRecDepth 100000 in
theorem z_m235 : m_M[235]? = some m_me_235 := rfl
set_option maxRecDepth 100000 in
theorem z_m236 : m_M[236]? = some m_me_236 := rfl
set_option maxRecDepth 100000 in
theorem z_m237 : m_M[237]? = some m_me_237 := rfl
set_option maxRecDepth 100000 in
theorem z_m238 : m_M[238]? = some m_me_238 := rfl
set_option maxRecDepth 100000 in
theorem z_m239 : m_M[239]? = some m_me_239 := rfl
set_option maxRecDepth 100000 in
theorem z_m240 : m_M[240]? = some m_me_240 := rfl
set_option maxRecDepth 100000 in
theorem z_m241 : m_M[241]? = some m_me_241 := rfl
set_option maxRecDepth 100000 in
theorem z_m242 : m_M[242]? = some m_me_242 := rfl
set_option maxRecDepth 100000 in
theorem z_m243 : m_M[243]? = some m_me_243 := rfl
set_option maxRecDepth 100000 in
theorem z_m244 : m_M[244]? = some m_me_244 := rfl
set_option maxRecDepth 100000 in
theorem z_m245 : m_M[245]? = some m_me_245 := rfl
set_option maxRecDepth 100000 in
theorem z_m246 : m_M[246]? = some m_me_246 := rfl
set_option maxRecDepth 100000 in
theorem z_m247 : m_M[247]? = some m_me_247 := rfl
set_option maxRecDepth 100000 in
theorem z_m248 : m_M[248]? = some m_me_248 := rfl
set_option maxRecDepth 100000 in
theorem z_m249 : m_M[249]? = some m_me_249 := rfl
set_option maxRecDepth 100000 in
theorem z_m250 : m_M[250]? = some m_me_250 := rfl
set_option maxRecDepth 100000 in
theorem z_m251 : m_M[251]? = some m_me_251 := rfl
set_option maxRecDepth 100000 in
theorem z_m252 : m_M[252]? = some m_me_252 := rfl
set_option maxRecDepth 100000 in
theorem z_m253 : m_M[253]? = some m_me_253 := rfl
set_option maxRecDepth 100000 in
theorem z_m254 : m_M[254]? = some m_me_254 := rfl
set_option maxRecDepth 100000 in
theorem z_m255 : m_M[255]? = some m_me_255 := rfl
set_option maxRecDepth 100000 in
theorem z_m256 : m_M[256]? = some m_me_256 := rfl
set_option maxRecDepth 100000 in
theorem z_m257 : m_M[257]? = some m_me_257 := rfl
set_option maxRecDepth 100000 in
theorem z_m258 : m_M[258]? = some m_me_258 := rfl
set_option maxRecDepth 100000 in
theorem z_m259 : m_M[259]? = some m_me_259 := rfl
set_option maxRecDepth 100000 in
theorem z_m260 : m_M[260]? = some m_me_260 := rfl
set_option maxRecDepth 100000 in
theorem z_m261 : m_M[261]? = some m_me_261 := rfl
set_option maxRecDepth 100000 in
theorem z_m262 : m_M[262]? = some m_me_262 := rfl
set_option maxRecDepth 100000 in
theorem z_m263 : m_M[263]? = some m_me_263 := rfl
set_option maxRecDepth 100000 in
theorem z_m264 : m_M[264]? = some m_me_264 := rfl
set_option maxRecDepth 100000 in
theorem z_m265 : m_M[265]? = some m_me_265 := rfl
set_option maxRecDepth 100000 in
theorem z_m266 : m_M[266]? = some m_me_266 := rfl
set_option maxRecDepth 100000 in
theorem z_m267 : m_M[267]? = some m_me_267 := rfl
set_option maxRecDepth 100000 in
theorem z_m268 : m_M[268]? = some m_me_268 := rfl
set_option maxRecDepth 100000 in
theorem z_m269 : m_M[269]? = some m_me_269 := rfl
set_option maxRecDepth 100000 in
theorem z_m270 : m_M[270]? = some m_me_270 := rfl
set_option maxRecDepth 100000 in
theorem z_m271 : m_M[271]? = some m_me_271 := rfl
set_option maxRecDepth 100000 in
theorem z_m272 : m_M[272]? = some m_me_272 := rfl
set_option maxRecDepth 100000 in
theorem z_m273 : m_M[273]? = some m_me_273 := rfl
set_option maxRecDepth 100000 in
theorem z_m274 : m_M[274]? = some m_me_274 := rfl
set_option maxRecDepth 100000 in
theorem z_m275 : m_M[275]? = some m_me_275 := rfl
set_option maxRecDepth 100000 in
theorem z_m276 : m_M[276]? = some m_me_276 := rfl
set_option maxRecDepth 100000 in
theorem z_m277 : m_M[277]? = some m_me_277 := rfl
set_option maxRecDepth 100000 in
theorem z_m278 : m_M[278]? = some m_me_278 := rfl
set_option maxRecDepth 100000 in
theorem z_m279 : m_M[279]? = some m_me_279 := rfl
set_option maxRecDepth 100000 in
theorem z_m280 : m_M[280]? = some m_me_280 := rfl
set_option maxRecDepth 100000 in
theorem z_m281 : m_M[281]? = some m_me_281 := rfl
set_option maxRecDepth 100000 in
theorem z_m282 : m_M[282]? = some m_me_282 := rfl
set_option maxRecDepth 100000 in
theorem z_m283 : m_M[283]? = some m_me_283 := rfl
set_option maxRecDepth 100000 in
theorem z_m284 : m_M[284]? = some m_me_284 := rfl
set_option maxRecDepth 100000 in
theorem z_m285 : m_M[285]? = some m_me_285 := rfl
set_option maxRecDepth 100000 in
theorem z_m286 : m_M[286]? = some m_me_286 := rfl
set_option maxRecDepth 100000 in
theorem z_m287 : m_M[287]? = some m_me_287 := rfl
set_option maxRecDepth 100000 in
theorem z_m288 : m_M[288]? = some m_me_288 := rfl
set_option maxRecDepth 100000 in
theorem z_m289 : m_M[289]? = some m_me_289 := rfl
set_option maxRecDepth 100000 in
theorem z_m290 : m_M[290]? = some m_me_290 := rfl
set_option maxRecDepth 100000 in
theorem z_m291 : m_M[291]? = some m_me_291 := rfl
set_option maxRecDepth 100000 in
theorem z_m292 : m_M[292]? = some m_me_292 := rfl
set_option maxRecDepth 100000 in
theorem z_m293 : m_M[293]? = some m_me_293 := rfl
set_option maxRecDepth 100000 in
theorem z_m294 : m_M[294]? = some m_me_294 := rfl
set_option maxRecDepth 100000 in
theorem z_m295 : m_M[295]? = some m_me_295 := rfl
set_option maxRecDepth 100000 in
theorem z_m296 : m_M[296]? = some m_me_296 := rfl
set_option maxRecDepth 100000 in
theorem z_m297 : m_M[297]? = some m_me_297 := rfl
set_option maxRecDepth 100000 in
theorem z_m298 : m_M[298]? = some m_me_298 := rfl
set_option maxRecDepth 100000 in
theorem z_m299 : m_M[299]? = some m_me_299 := rfl
set_option maxRecDepth 100000 in
theorem z_m300 : m_M[300]? = some m_me_300 := rfl
set_option maxRecDepth 100000 in
theorem z_m301 : m_M[301]? = some m_me_301 := rfl
set_option maxRecDepth 100000 in
theorem z_m302 : m_M[302]? = some m_me_302 := rfl
set_option maxRecDepth 100000 in
theorem z_m303 : m_M[303]? = some m_me_303 := rfl
set_option maxRecDepth 100000 in
theorem z_m304 : m_M[304]? = some m_me_304 := rfl
set_option maxRecDepth 100000 in
theorem z_m305 : m_M[305]? = some m_me_305 := rfl
set_option maxRecDepth 100000 in
theorem z_m306 : m_M[306]? = some m_me_306 := rfl
set_option maxRecDepth 100000 in
theorem z_m307 : m_M[307]? = some m_me_307 := rfl
set_option maxRecDepth 100000 in
theorem z_m308 : m_M[308]? = some m_me_308 := rfl
set_option maxRecDepth 100000 in
theorem z_m309 : m_M[309]? = some m_me_309 := rfl
set_option maxRecDepth 100000 in
theorem z_m310 : m_M[310]? = some m_me_310 := rfl
set_option maxRecDepth 100000 in
theorem z_m311 : m_M[311]? = some m_me_311 := rfl
set_option maxRecDepth 100000 in
theorem z_m312 : m_M[312]? = some m_me_312 := rfl
set_option maxRecDepth 100000 in
theorem z_m313 : m_M[313]? = some m_me_313 := rfl
set_option maxRecDepth 100000 in
theorem z_m314 : m_M[314]? = some m_me_314 := rfl
set_option maxRecDepth 100000 in
theorem z_m315 : m_M[315]? = some m_me_315 := rfl
set_option maxRecDepth 100000 in
theorem z_m316 : m_M[316]? = some m_me_316 := rfl
set_option maxRecDepth 100000 in
theorem z_m317 : m_M[317]? = some m_me_317 := rfl
set_option maxRecDepth 100000 in
theorem z_m318 : m_M[318]? = some m_me_318 := rfl
set_option maxRecDepth 100000 in
theorem z_m319 : m_M[319]? = some m_me_319 := rfl
set_option maxRecDepth 100000 in
theorem z_m320 : m_M[320]? = some m_me_320 := rfl
set_option maxRecDepth 100000 in
theorem z_m321 : m_M[321]? = some m_me_321 := rfl
set_option maxRecDepth 100000 in
theorem z_m322 : m_M[322]? = some m_me_322 := rfl
set_option maxRecDepth 100000 in
theorem z_m323 : m_M[323]? = some m_me_323 := rfl
set_option maxRecDepth 100000 in
theorem z_m324 : m_M[324]? = some m_me_324 := rfl
set_option maxRecDepth 100000 in
theorem z_m325 : m_M[325]? = some m_me_325 := rfl
set_option maxRecDepth 100000 in
theorem z_m326 : m_M[326]? = some m_me_326 := rfl
set_option maxRecDepth 100000 in
theorem z_m327 : m_M[327]? = some m_me_327 := rfl
set_option maxRecDepth 100000 in
theorem z_m328 : m_M[328]? = some m_me_328 := rfl
set_option maxRecDepth 100000 in
theorem z_m329 : m_M[329]? = some m_me_329 := rfl
set_option maxRecDepth 100000 in
theorem z_m330 : m_M[330]? = some m_me_330 := rfl
set_option maxRecDepth 100000 in
theorem z_m331 : m_M[331]? = some m_me_331 := rfl
set_option maxRecDepth 100000 in
theorem z_m332 : m_M[332]? = some m_me_332 := rfl
set_option maxRecDepth 100000 in
theorem z_m333 : m_M[333]? = some m_me_333 := rfl
set_option maxRecDepth 100000 in
theorem z_m334 : m_M[334]? = some m_me_334 := rfl
set_option maxRecDepth 100000 in
theorem z_m335 : m_M[335]? = some m_me_335 := rfl
set_option maxRecDepth 100000 in
theorem z_m336 : m_M[336]? = some m_me_336 := rfl
set_option maxRecDepth 100000 in
theorem z_m337 : m_M[337]? = some m_me_337 := rfl
set_option maxRecDepth 100000 in
theorem z_m338 : m_M[338]? = some m_me_338 := rfl
set_option maxRecDepth 100000 in
theorem z_m339 : m_M[339]? = some m_me_339 := rfl
set_option maxRecDepth 100000 in
theorem z_m340 : m_M[340]? = some m_me_340 := rfl
set_option maxRecDepth 100000 in
theorem z_m341 : m_M[341]? = some m_me_341 := rfl
set_option maxRecDepth 100000 in
theorem z_m342 : m_M[342]? = some m_me_342 := rfl
