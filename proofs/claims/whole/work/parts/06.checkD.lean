theorem xe_all (i : Nat) (hi : i < 273) : (xcode i).all (xokE i) = true := by
  by_cases h136 : i < 136
  · by_cases h68 : i < 68
    · by_cases h34 : i < 34
      · by_cases h17 : i < 17
        · by_cases h8 : i < 8
          · by_cases h4 : i < 4
            · by_cases h2 : i < 2
              · by_cases h1 : i < 1
                · exact (show i = 0 by omega) ▸ xe_0
                · exact (show i = 1 by omega) ▸ xe_1
              · by_cases h3 : i < 3
                · exact (show i = 2 by omega) ▸ xe_2
                · exact (show i = 3 by omega) ▸ xe_3
            · by_cases h6 : i < 6
              · by_cases h5 : i < 5
                · exact (show i = 4 by omega) ▸ xe_4
                · exact (show i = 5 by omega) ▸ xe_5
              · by_cases h7 : i < 7
                · exact (show i = 6 by omega) ▸ xe_6
                · exact (show i = 7 by omega) ▸ xe_7
          · by_cases h12 : i < 12
            · by_cases h10 : i < 10
              · by_cases h9 : i < 9
                · exact (show i = 8 by omega) ▸ xe_8
                · exact (show i = 9 by omega) ▸ xe_9
              · by_cases h11 : i < 11
                · exact (show i = 10 by omega) ▸ xe_10
                · exact (show i = 11 by omega) ▸ xe_11
            · by_cases h14 : i < 14
              · by_cases h13 : i < 13
                · exact (show i = 12 by omega) ▸ xe_12
                · exact (show i = 13 by omega) ▸ xe_13
              · by_cases h15 : i < 15
                · exact (show i = 14 by omega) ▸ xe_14
                · by_cases h16 : i < 16
                  · exact (show i = 15 by omega) ▸ xe_15
                  · exact (show i = 16 by omega) ▸ xe_16
        · by_cases h25 : i < 25
          · by_cases h21 : i < 21
            · by_cases h19 : i < 19
              · by_cases h18 : i < 18
                · exact (show i = 17 by omega) ▸ xe_17
                · exact (show i = 18 by omega) ▸ xe_18
              · by_cases h20 : i < 20
                · exact (show i = 19 by omega) ▸ xe_19
                · exact (show i = 20 by omega) ▸ xe_20
            · by_cases h23 : i < 23
              · by_cases h22 : i < 22
                · exact (show i = 21 by omega) ▸ xe_21
                · exact (show i = 22 by omega) ▸ xe_22
              · by_cases h24 : i < 24
                · exact (show i = 23 by omega) ▸ xe_23
                · exact (show i = 24 by omega) ▸ xe_24
          · by_cases h29 : i < 29
            · by_cases h27 : i < 27
              · by_cases h26 : i < 26
                · exact (show i = 25 by omega) ▸ xe_25
                · exact (show i = 26 by omega) ▸ xe_26
              · by_cases h28 : i < 28
                · exact (show i = 27 by omega) ▸ xe_27
                · exact (show i = 28 by omega) ▸ xe_28
            · by_cases h31 : i < 31
              · by_cases h30 : i < 30
                · exact (show i = 29 by omega) ▸ xe_29
                · exact (show i = 30 by omega) ▸ xe_30
              · by_cases h32 : i < 32
                · exact (show i = 31 by omega) ▸ xe_31
                · by_cases h33 : i < 33
                  · exact (show i = 32 by omega) ▸ xe_32
                  · exact (show i = 33 by omega) ▸ xe_33
      · by_cases h51 : i < 51
        · by_cases h42 : i < 42
          · by_cases h38 : i < 38
            · by_cases h36 : i < 36
              · by_cases h35 : i < 35
                · exact (show i = 34 by omega) ▸ xe_34
                · exact (show i = 35 by omega) ▸ xe_35
              · by_cases h37 : i < 37
                · exact (show i = 36 by omega) ▸ xe_36
                · exact (show i = 37 by omega) ▸ xe_37
            · by_cases h40 : i < 40
              · by_cases h39 : i < 39
                · exact (show i = 38 by omega) ▸ xe_38
                · exact (show i = 39 by omega) ▸ xe_39
              · by_cases h41 : i < 41
                · exact (show i = 40 by omega) ▸ xe_40
                · exact (show i = 41 by omega) ▸ xe_41
          · by_cases h46 : i < 46
            · by_cases h44 : i < 44
              · by_cases h43 : i < 43
                · exact (show i = 42 by omega) ▸ xe_42
                · exact (show i = 43 by omega) ▸ xe_43
              · by_cases h45 : i < 45
                · exact (show i = 44 by omega) ▸ xe_44
                · exact (show i = 45 by omega) ▸ xe_45
            · by_cases h48 : i < 48
              · by_cases h47 : i < 47
                · exact (show i = 46 by omega) ▸ xe_46
                · exact (show i = 47 by omega) ▸ xe_47
              · by_cases h49 : i < 49
                · exact (show i = 48 by omega) ▸ xe_48
                · by_cases h50 : i < 50
                  · exact (show i = 49 by omega) ▸ xe_49
                  · exact (show i = 50 by omega) ▸ xe_50
        · by_cases h59 : i < 59
          · by_cases h55 : i < 55
            · by_cases h53 : i < 53
              · by_cases h52 : i < 52
                · exact (show i = 51 by omega) ▸ xe_51
                · exact (show i = 52 by omega) ▸ xe_52
              · by_cases h54 : i < 54
                · exact (show i = 53 by omega) ▸ xe_53
                · exact (show i = 54 by omega) ▸ xe_54
            · by_cases h57 : i < 57
              · by_cases h56 : i < 56
                · exact (show i = 55 by omega) ▸ xe_55
                · exact (show i = 56 by omega) ▸ xe_56
              · by_cases h58 : i < 58
                · exact (show i = 57 by omega) ▸ xe_57
                · exact (show i = 58 by omega) ▸ xe_58
          · by_cases h63 : i < 63
            · by_cases h61 : i < 61
              · by_cases h60 : i < 60
                · exact (show i = 59 by omega) ▸ xe_59
                · exact (show i = 60 by omega) ▸ xe_60
              · by_cases h62 : i < 62
                · exact (show i = 61 by omega) ▸ xe_61
                · exact (show i = 62 by omega) ▸ xe_62
            · by_cases h65 : i < 65
              · by_cases h64 : i < 64
                · exact (show i = 63 by omega) ▸ xe_63
                · exact (show i = 64 by omega) ▸ xe_64
              · by_cases h66 : i < 66
                · exact (show i = 65 by omega) ▸ xe_65
                · by_cases h67 : i < 67
                  · exact (show i = 66 by omega) ▸ xe_66
                  · exact (show i = 67 by omega) ▸ xe_67
    · by_cases h102 : i < 102
      · by_cases h85 : i < 85
        · by_cases h76 : i < 76
          · by_cases h72 : i < 72
            · by_cases h70 : i < 70
              · by_cases h69 : i < 69
                · exact (show i = 68 by omega) ▸ xe_68
                · exact (show i = 69 by omega) ▸ xe_69
              · by_cases h71 : i < 71
                · exact (show i = 70 by omega) ▸ xe_70
                · exact (show i = 71 by omega) ▸ xe_71
            · by_cases h74 : i < 74
              · by_cases h73 : i < 73
                · exact (show i = 72 by omega) ▸ xe_72
                · exact (show i = 73 by omega) ▸ xe_73
              · by_cases h75 : i < 75
                · exact (show i = 74 by omega) ▸ xe_74
                · exact (show i = 75 by omega) ▸ xe_75
          · by_cases h80 : i < 80
            · by_cases h78 : i < 78
              · by_cases h77 : i < 77
                · exact (show i = 76 by omega) ▸ xe_76
                · exact (show i = 77 by omega) ▸ xe_77
              · by_cases h79 : i < 79
                · exact (show i = 78 by omega) ▸ xe_78
                · exact (show i = 79 by omega) ▸ xe_79
            · by_cases h82 : i < 82
              · by_cases h81 : i < 81
                · exact (show i = 80 by omega) ▸ xe_80
                · exact (show i = 81 by omega) ▸ xe_81
              · by_cases h83 : i < 83
                · exact (show i = 82 by omega) ▸ xe_82
                · by_cases h84 : i < 84
                  · exact (show i = 83 by omega) ▸ xe_83
                  · exact (show i = 84 by omega) ▸ xe_84
        · by_cases h93 : i < 93
          · by_cases h89 : i < 89
            · by_cases h87 : i < 87
              · by_cases h86 : i < 86
                · exact (show i = 85 by omega) ▸ xe_85
                · exact (show i = 86 by omega) ▸ xe_86
              · by_cases h88 : i < 88
                · exact (show i = 87 by omega) ▸ xe_87
                · exact (show i = 88 by omega) ▸ xe_88
            · by_cases h91 : i < 91
              · by_cases h90 : i < 90
                · exact (show i = 89 by omega) ▸ xe_89
                · exact (show i = 90 by omega) ▸ xe_90
              · by_cases h92 : i < 92
                · exact (show i = 91 by omega) ▸ xe_91
                · exact (show i = 92 by omega) ▸ xe_92
          · by_cases h97 : i < 97
            · by_cases h95 : i < 95
              · by_cases h94 : i < 94
                · exact (show i = 93 by omega) ▸ xe_93
                · exact (show i = 94 by omega) ▸ xe_94
              · by_cases h96 : i < 96
                · exact (show i = 95 by omega) ▸ xe_95
                · exact (show i = 96 by omega) ▸ xe_96
            · by_cases h99 : i < 99
              · by_cases h98 : i < 98
                · exact (show i = 97 by omega) ▸ xe_97
                · exact (show i = 98 by omega) ▸ xe_98
              · by_cases h100 : i < 100
                · exact (show i = 99 by omega) ▸ xe_99
                · by_cases h101 : i < 101
                  · exact (show i = 100 by omega) ▸ xe_100
                  · exact (show i = 101 by omega) ▸ xe_101
      · by_cases h119 : i < 119
        · by_cases h110 : i < 110
          · by_cases h106 : i < 106
            · by_cases h104 : i < 104
              · by_cases h103 : i < 103
                · exact (show i = 102 by omega) ▸ xe_102
                · exact (show i = 103 by omega) ▸ xe_103
              · by_cases h105 : i < 105
                · exact (show i = 104 by omega) ▸ xe_104
                · exact (show i = 105 by omega) ▸ xe_105
            · by_cases h108 : i < 108
              · by_cases h107 : i < 107
                · exact (show i = 106 by omega) ▸ xe_106
                · exact (show i = 107 by omega) ▸ xe_107
              · by_cases h109 : i < 109
                · exact (show i = 108 by omega) ▸ xe_108
                · exact (show i = 109 by omega) ▸ xe_109
          · by_cases h114 : i < 114
            · by_cases h112 : i < 112
              · by_cases h111 : i < 111
                · exact (show i = 110 by omega) ▸ xe_110
                · exact (show i = 111 by omega) ▸ xe_111
              · by_cases h113 : i < 113
                · exact (show i = 112 by omega) ▸ xe_112
                · exact (show i = 113 by omega) ▸ xe_113
            · by_cases h116 : i < 116
              · by_cases h115 : i < 115
                · exact (show i = 114 by omega) ▸ xe_114
                · exact (show i = 115 by omega) ▸ xe_115
              · by_cases h117 : i < 117
                · exact (show i = 116 by omega) ▸ xe_116
                · by_cases h118 : i < 118
                  · exact (show i = 117 by omega) ▸ xe_117
                  · exact (show i = 118 by omega) ▸ xe_118
        · by_cases h127 : i < 127
          · by_cases h123 : i < 123
            · by_cases h121 : i < 121
              · by_cases h120 : i < 120
                · exact (show i = 119 by omega) ▸ xe_119
                · exact (show i = 120 by omega) ▸ xe_120
              · by_cases h122 : i < 122
                · exact (show i = 121 by omega) ▸ xe_121
                · exact (show i = 122 by omega) ▸ xe_122
            · by_cases h125 : i < 125
              · by_cases h124 : i < 124
                · exact (show i = 123 by omega) ▸ xe_123
                · exact (show i = 124 by omega) ▸ xe_124
              · by_cases h126 : i < 126
                · exact (show i = 125 by omega) ▸ xe_125
                · exact (show i = 126 by omega) ▸ xe_126
          · by_cases h131 : i < 131
            · by_cases h129 : i < 129
              · by_cases h128 : i < 128
                · exact (show i = 127 by omega) ▸ xe_127
                · exact (show i = 128 by omega) ▸ xe_128
              · by_cases h130 : i < 130
                · exact (show i = 129 by omega) ▸ xe_129
                · exact (show i = 130 by omega) ▸ xe_130
            · by_cases h133 : i < 133
              · by_cases h132 : i < 132
                · exact (show i = 131 by omega) ▸ xe_131
                · exact (show i = 132 by omega) ▸ xe_132
              · by_cases h134 : i < 134
                · exact (show i = 133 by omega) ▸ xe_133
                · by_cases h135 : i < 135
                  · exact (show i = 134 by omega) ▸ xe_134
                  · exact (show i = 135 by omega) ▸ xe_135
  · by_cases h204 : i < 204
    · by_cases h170 : i < 170
      · by_cases h153 : i < 153
        · by_cases h144 : i < 144
          · by_cases h140 : i < 140
            · by_cases h138 : i < 138
              · by_cases h137 : i < 137
                · exact (show i = 136 by omega) ▸ xe_136
                · exact (show i = 137 by omega) ▸ xe_137
              · by_cases h139 : i < 139
                · exact (show i = 138 by omega) ▸ xe_138
                · exact (show i = 139 by omega) ▸ xe_139
            · by_cases h142 : i < 142
              · by_cases h141 : i < 141
                · exact (show i = 140 by omega) ▸ xe_140
                · exact (show i = 141 by omega) ▸ xe_141
              · by_cases h143 : i < 143
                · exact (show i = 142 by omega) ▸ xe_142
                · exact (show i = 143 by omega) ▸ xe_143
          · by_cases h148 : i < 148
            · by_cases h146 : i < 146
              · by_cases h145 : i < 145
                · exact (show i = 144 by omega) ▸ xe_144
                · exact (show i = 145 by omega) ▸ xe_145
              · by_cases h147 : i < 147
                · exact (show i = 146 by omega) ▸ xe_146
                · exact (show i = 147 by omega) ▸ xe_147
            · by_cases h150 : i < 150
              · by_cases h149 : i < 149
                · exact (show i = 148 by omega) ▸ xe_148
                · exact (show i = 149 by omega) ▸ xe_149
              · by_cases h151 : i < 151
                · exact (show i = 150 by omega) ▸ xe_150
                · by_cases h152 : i < 152
                  · exact (show i = 151 by omega) ▸ xe_151
                  · exact (show i = 152 by omega) ▸ xe_152
        · by_cases h161 : i < 161
          · by_cases h157 : i < 157
            · by_cases h155 : i < 155
              · by_cases h154 : i < 154
                · exact (show i = 153 by omega) ▸ xe_153
                · exact (show i = 154 by omega) ▸ xe_154
              · by_cases h156 : i < 156
                · exact (show i = 155 by omega) ▸ xe_155
                · exact (show i = 156 by omega) ▸ xe_156
            · by_cases h159 : i < 159
              · by_cases h158 : i < 158
                · exact (show i = 157 by omega) ▸ xe_157
                · exact (show i = 158 by omega) ▸ xe_158
              · by_cases h160 : i < 160
                · exact (show i = 159 by omega) ▸ xe_159
                · exact (show i = 160 by omega) ▸ xe_160
          · by_cases h165 : i < 165
            · by_cases h163 : i < 163
              · by_cases h162 : i < 162
                · exact (show i = 161 by omega) ▸ xe_161
                · exact (show i = 162 by omega) ▸ xe_162
              · by_cases h164 : i < 164
                · exact (show i = 163 by omega) ▸ xe_163
                · exact (show i = 164 by omega) ▸ xe_164
            · by_cases h167 : i < 167
              · by_cases h166 : i < 166
                · exact (show i = 165 by omega) ▸ xe_165
                · exact (show i = 166 by omega) ▸ xe_166
              · by_cases h168 : i < 168
                · exact (show i = 167 by omega) ▸ xe_167
                · by_cases h169 : i < 169
                  · exact (show i = 168 by omega) ▸ xe_168
                  · exact (show i = 169 by omega) ▸ xe_169
      · by_cases h187 : i < 187
        · by_cases h178 : i < 178
          · by_cases h174 : i < 174
            · by_cases h172 : i < 172
              · by_cases h171 : i < 171
                · exact (show i = 170 by omega) ▸ xe_170
                · exact (show i = 171 by omega) ▸ xe_171
              · by_cases h173 : i < 173
                · exact (show i = 172 by omega) ▸ xe_172
                · exact (show i = 173 by omega) ▸ xe_173
            · by_cases h176 : i < 176
              · by_cases h175 : i < 175
                · exact (show i = 174 by omega) ▸ xe_174
                · exact (show i = 175 by omega) ▸ xe_175
              · by_cases h177 : i < 177
                · exact (show i = 176 by omega) ▸ xe_176
                · exact (show i = 177 by omega) ▸ xe_177
          · by_cases h182 : i < 182
            · by_cases h180 : i < 180
              · by_cases h179 : i < 179
                · exact (show i = 178 by omega) ▸ xe_178
                · exact (show i = 179 by omega) ▸ xe_179
              · by_cases h181 : i < 181
                · exact (show i = 180 by omega) ▸ xe_180
                · exact (show i = 181 by omega) ▸ xe_181
            · by_cases h184 : i < 184
              · by_cases h183 : i < 183
                · exact (show i = 182 by omega) ▸ xe_182
                · exact (show i = 183 by omega) ▸ xe_183
              · by_cases h185 : i < 185
                · exact (show i = 184 by omega) ▸ xe_184
                · by_cases h186 : i < 186
                  · exact (show i = 185 by omega) ▸ xe_185
                  · exact (show i = 186 by omega) ▸ xe_186
        · by_cases h195 : i < 195
          · by_cases h191 : i < 191
            · by_cases h189 : i < 189
              · by_cases h188 : i < 188
                · exact (show i = 187 by omega) ▸ xe_187
                · exact (show i = 188 by omega) ▸ xe_188
              · by_cases h190 : i < 190
                · exact (show i = 189 by omega) ▸ xe_189
                · exact (show i = 190 by omega) ▸ xe_190
            · by_cases h193 : i < 193
              · by_cases h192 : i < 192
                · exact (show i = 191 by omega) ▸ xe_191
                · exact (show i = 192 by omega) ▸ xe_192
              · by_cases h194 : i < 194
                · exact (show i = 193 by omega) ▸ xe_193
                · exact (show i = 194 by omega) ▸ xe_194
          · by_cases h199 : i < 199
            · by_cases h197 : i < 197
              · by_cases h196 : i < 196
                · exact (show i = 195 by omega) ▸ xe_195
                · exact (show i = 196 by omega) ▸ xe_196
              · by_cases h198 : i < 198
                · exact (show i = 197 by omega) ▸ xe_197
                · exact (show i = 198 by omega) ▸ xe_198
            · by_cases h201 : i < 201
              · by_cases h200 : i < 200
                · exact (show i = 199 by omega) ▸ xe_199
                · exact (show i = 200 by omega) ▸ xe_200
              · by_cases h202 : i < 202
                · exact (show i = 201 by omega) ▸ xe_201
                · by_cases h203 : i < 203
                  · exact (show i = 202 by omega) ▸ xe_202
                  · exact (show i = 203 by omega) ▸ xe_203
    · by_cases h238 : i < 238
      · by_cases h221 : i < 221
        · by_cases h212 : i < 212
          · by_cases h208 : i < 208
            · by_cases h206 : i < 206
              · by_cases h205 : i < 205
                · exact (show i = 204 by omega) ▸ xe_204
                · exact (show i = 205 by omega) ▸ xe_205
              · by_cases h207 : i < 207
                · exact (show i = 206 by omega) ▸ xe_206
                · exact (show i = 207 by omega) ▸ xe_207
            · by_cases h210 : i < 210
              · by_cases h209 : i < 209
                · exact (show i = 208 by omega) ▸ xe_208
                · exact (show i = 209 by omega) ▸ xe_209
              · by_cases h211 : i < 211
                · exact (show i = 210 by omega) ▸ xe_210
                · exact (show i = 211 by omega) ▸ xe_211
          · by_cases h216 : i < 216
            · by_cases h214 : i < 214
              · by_cases h213 : i < 213
                · exact (show i = 212 by omega) ▸ xe_212
                · exact (show i = 213 by omega) ▸ xe_213
              · by_cases h215 : i < 215
                · exact (show i = 214 by omega) ▸ xe_214
                · exact (show i = 215 by omega) ▸ xe_215
            · by_cases h218 : i < 218
              · by_cases h217 : i < 217
                · exact (show i = 216 by omega) ▸ xe_216
                · exact (show i = 217 by omega) ▸ xe_217
              · by_cases h219 : i < 219
                · exact (show i = 218 by omega) ▸ xe_218
                · by_cases h220 : i < 220
                  · exact (show i = 219 by omega) ▸ xe_219
                  · exact (show i = 220 by omega) ▸ xe_220
        · by_cases h229 : i < 229
          · by_cases h225 : i < 225
            · by_cases h223 : i < 223
              · by_cases h222 : i < 222
                · exact (show i = 221 by omega) ▸ xe_221
                · exact (show i = 222 by omega) ▸ xe_222
              · by_cases h224 : i < 224
                · exact (show i = 223 by omega) ▸ xe_223
                · exact (show i = 224 by omega) ▸ xe_224
            · by_cases h227 : i < 227
              · by_cases h226 : i < 226
                · exact (show i = 225 by omega) ▸ xe_225
                · exact (show i = 226 by omega) ▸ xe_226
              · by_cases h228 : i < 228
                · exact (show i = 227 by omega) ▸ xe_227
                · exact (show i = 228 by omega) ▸ xe_228
          · by_cases h233 : i < 233
            · by_cases h231 : i < 231
              · by_cases h230 : i < 230
                · exact (show i = 229 by omega) ▸ xe_229
                · exact (show i = 230 by omega) ▸ xe_230
              · by_cases h232 : i < 232
                · exact (show i = 231 by omega) ▸ xe_231
                · exact (show i = 232 by omega) ▸ xe_232
            · by_cases h235 : i < 235
              · by_cases h234 : i < 234
                · exact (show i = 233 by omega) ▸ xe_233
                · exact (show i = 234 by omega) ▸ xe_234
              · by_cases h236 : i < 236
                · exact (show i = 235 by omega) ▸ xe_235
                · by_cases h237 : i < 237
                  · exact (show i = 236 by omega) ▸ xe_236
                  · exact (show i = 237 by omega) ▸ xe_237
      · by_cases h255 : i < 255
        · by_cases h246 : i < 246
          · by_cases h242 : i < 242
            · by_cases h240 : i < 240
              · by_cases h239 : i < 239
                · exact (show i = 238 by omega) ▸ xe_238
                · exact (show i = 239 by omega) ▸ xe_239
              · by_cases h241 : i < 241
                · exact (show i = 240 by omega) ▸ xe_240
                · exact (show i = 241 by omega) ▸ xe_241
            · by_cases h244 : i < 244
              · by_cases h243 : i < 243
                · exact (show i = 242 by omega) ▸ xe_242
                · exact (show i = 243 by omega) ▸ xe_243
              · by_cases h245 : i < 245
                · exact (show i = 244 by omega) ▸ xe_244
                · exact (show i = 245 by omega) ▸ xe_245
          · by_cases h250 : i < 250
            · by_cases h248 : i < 248
              · by_cases h247 : i < 247
                · exact (show i = 246 by omega) ▸ xe_246
                · exact (show i = 247 by omega) ▸ xe_247
              · by_cases h249 : i < 249
                · exact (show i = 248 by omega) ▸ xe_248
                · exact (show i = 249 by omega) ▸ xe_249
            · by_cases h252 : i < 252
              · by_cases h251 : i < 251
                · exact (show i = 250 by omega) ▸ xe_250
                · exact (show i = 251 by omega) ▸ xe_251
              · by_cases h253 : i < 253
                · exact (show i = 252 by omega) ▸ xe_252
                · by_cases h254 : i < 254
                  · exact (show i = 253 by omega) ▸ xe_253
                  · exact (show i = 254 by omega) ▸ xe_254
        · by_cases h264 : i < 264
          · by_cases h259 : i < 259
            · by_cases h257 : i < 257
              · by_cases h256 : i < 256
                · exact (show i = 255 by omega) ▸ xe_255
                · exact (show i = 256 by omega) ▸ xe_256
              · by_cases h258 : i < 258
                · exact (show i = 257 by omega) ▸ xe_257
                · exact (show i = 258 by omega) ▸ xe_258
            · by_cases h261 : i < 261
              · by_cases h260 : i < 260
                · exact (show i = 259 by omega) ▸ xe_259
                · exact (show i = 260 by omega) ▸ xe_260
              · by_cases h262 : i < 262
                · exact (show i = 261 by omega) ▸ xe_261
                · by_cases h263 : i < 263
                  · exact (show i = 262 by omega) ▸ xe_262
                  · exact (show i = 263 by omega) ▸ xe_263
          · by_cases h268 : i < 268
            · by_cases h266 : i < 266
              · by_cases h265 : i < 265
                · exact (show i = 264 by omega) ▸ xe_264
                · exact (show i = 265 by omega) ▸ xe_265
              · by_cases h267 : i < 267
                · exact (show i = 266 by omega) ▸ xe_266
                · exact (show i = 267 by omega) ▸ xe_267
            · by_cases h270 : i < 270
              · by_cases h269 : i < 269
                · exact (show i = 268 by omega) ▸ xe_268
                · exact (show i = 269 by omega) ▸ xe_269
              · by_cases h271 : i < 271
                · exact (show i = 270 by omega) ▸ xe_270
                · by_cases h272 : i < 272
                  · exact (show i = 271 by omega) ▸ xe_271
                  · exact (show i = 272 by omega) ▸ xl_all
theorem xm_all (i : Nat) (hi : i < 272) (hp : plainName (xY i).cls = true) : xokM i = true := by
  have go : ∀ k, i = k → (!(plainName (xY k).cls) || xokM k) = true → xokM i = true := by
    intro k hk h
    subst hk
    rw [hp] at h
    simpa using h
  by_cases g136 : i < 136
  · by_cases g68 : i < 68
    · by_cases g34 : i < 34
      · by_cases g17 : i < 17
        · by_cases g8 : i < 8
          · by_cases g4 : i < 4
            · by_cases g2 : i < 2
              · by_cases g1 : i < 1
                · exact go 0 (by omega) xm_0
                · exact go 1 (by omega) xm_1
              · by_cases g3 : i < 3
                · exact go 2 (by omega) xm_2
                · exact go 3 (by omega) xm_3
            · by_cases g6 : i < 6
              · by_cases g5 : i < 5
                · exact go 4 (by omega) xm_4
                · exact go 5 (by omega) xm_5
              · by_cases g7 : i < 7
                · exact go 6 (by omega) xm_6
                · exact go 7 (by omega) xm_7
          · by_cases g12 : i < 12
            · by_cases g10 : i < 10
              · by_cases g9 : i < 9
                · exact go 8 (by omega) xm_8
                · exact go 9 (by omega) xm_9
              · by_cases g11 : i < 11
                · exact go 10 (by omega) xm_10
                · exact go 11 (by omega) xm_11
            · by_cases g14 : i < 14
              · by_cases g13 : i < 13
                · exact go 12 (by omega) xm_12
                · exact go 13 (by omega) xm_13
              · by_cases g15 : i < 15
                · exact go 14 (by omega) xm_14
                · by_cases g16 : i < 16
                  · exact go 15 (by omega) xm_15
                  · exact go 16 (by omega) xm_16
        · by_cases g25 : i < 25
          · by_cases g21 : i < 21
            · by_cases g19 : i < 19
              · by_cases g18 : i < 18
                · exact go 17 (by omega) xm_17
                · exact go 18 (by omega) xm_18
              · by_cases g20 : i < 20
                · exact go 19 (by omega) xm_19
                · exact go 20 (by omega) xm_20
            · by_cases g23 : i < 23
              · by_cases g22 : i < 22
                · exact go 21 (by omega) xm_21
                · exact go 22 (by omega) xm_22
              · by_cases g24 : i < 24
                · exact go 23 (by omega) xm_23
                · exact go 24 (by omega) xm_24
          · by_cases g29 : i < 29
            · by_cases g27 : i < 27
              · by_cases g26 : i < 26
                · exact go 25 (by omega) xm_25
                · exact go 26 (by omega) xm_26
              · by_cases g28 : i < 28
                · exact go 27 (by omega) xm_27
                · exact go 28 (by omega) xm_28
            · by_cases g31 : i < 31
              · by_cases g30 : i < 30
                · exact go 29 (by omega) xm_29
                · exact go 30 (by omega) xm_30
              · by_cases g32 : i < 32
                · exact go 31 (by omega) xm_31
                · by_cases g33 : i < 33
                  · exact go 32 (by omega) xm_32
                  · exact go 33 (by omega) xm_33
      · by_cases g51 : i < 51
        · by_cases g42 : i < 42
          · by_cases g38 : i < 38
            · by_cases g36 : i < 36
              · by_cases g35 : i < 35
                · exact go 34 (by omega) xm_34
                · exact go 35 (by omega) xm_35
              · by_cases g37 : i < 37
                · exact go 36 (by omega) xm_36
                · exact go 37 (by omega) xm_37
            · by_cases g40 : i < 40
              · by_cases g39 : i < 39
                · exact go 38 (by omega) xm_38
                · exact go 39 (by omega) xm_39
              · by_cases g41 : i < 41
                · exact go 40 (by omega) xm_40
                · exact go 41 (by omega) xm_41
          · by_cases g46 : i < 46
            · by_cases g44 : i < 44
              · by_cases g43 : i < 43
                · exact go 42 (by omega) xm_42
                · exact go 43 (by omega) xm_43
              · by_cases g45 : i < 45
                · exact go 44 (by omega) xm_44
                · exact go 45 (by omega) xm_45
            · by_cases g48 : i < 48
              · by_cases g47 : i < 47
                · exact go 46 (by omega) xm_46
                · exact go 47 (by omega) xm_47
              · by_cases g49 : i < 49
                · exact go 48 (by omega) xm_48
                · by_cases g50 : i < 50
                  · exact go 49 (by omega) xm_49
                  · exact go 50 (by omega) xm_50
        · by_cases g59 : i < 59
          · by_cases g55 : i < 55
            · by_cases g53 : i < 53
              · by_cases g52 : i < 52
                · exact go 51 (by omega) xm_51
                · exact go 52 (by omega) xm_52
              · by_cases g54 : i < 54
                · exact go 53 (by omega) xm_53
                · exact go 54 (by omega) xm_54
            · by_cases g57 : i < 57
              · by_cases g56 : i < 56
                · exact go 55 (by omega) xm_55
                · exact go 56 (by omega) xm_56
              · by_cases g58 : i < 58
                · exact go 57 (by omega) xm_57
                · exact go 58 (by omega) xm_58
          · by_cases g63 : i < 63
            · by_cases g61 : i < 61
              · by_cases g60 : i < 60
                · exact go 59 (by omega) xm_59
                · exact go 60 (by omega) xm_60
              · by_cases g62 : i < 62
                · exact go 61 (by omega) xm_61
                · exact go 62 (by omega) xm_62
            · by_cases g65 : i < 65
              · by_cases g64 : i < 64
                · exact go 63 (by omega) xm_63
                · exact go 64 (by omega) xm_64
              · by_cases g66 : i < 66
                · exact go 65 (by omega) xm_65
                · by_cases g67 : i < 67
                  · exact go 66 (by omega) xm_66
                  · exact go 67 (by omega) xm_67
    · by_cases g102 : i < 102
      · by_cases g85 : i < 85
        · by_cases g76 : i < 76
          · by_cases g72 : i < 72
            · by_cases g70 : i < 70
              · by_cases g69 : i < 69
                · exact go 68 (by omega) xm_68
                · exact go 69 (by omega) xm_69
              · by_cases g71 : i < 71
                · exact go 70 (by omega) xm_70
                · exact go 71 (by omega) xm_71
            · by_cases g74 : i < 74
              · by_cases g73 : i < 73
                · exact go 72 (by omega) xm_72
                · exact go 73 (by omega) xm_73
              · by_cases g75 : i < 75
                · exact go 74 (by omega) xm_74
                · exact go 75 (by omega) xm_75
          · by_cases g80 : i < 80
            · by_cases g78 : i < 78
              · by_cases g77 : i < 77
                · exact go 76 (by omega) xm_76
                · exact go 77 (by omega) xm_77
              · by_cases g79 : i < 79
                · exact go 78 (by omega) xm_78
                · exact go 79 (by omega) xm_79
            · by_cases g82 : i < 82
              · by_cases g81 : i < 81
                · exact go 80 (by omega) xm_80
                · exact go 81 (by omega) xm_81
              · by_cases g83 : i < 83
                · exact go 82 (by omega) xm_82
                · by_cases g84 : i < 84
                  · exact go 83 (by omega) xm_83
                  · exact go 84 (by omega) xm_84
        · by_cases g93 : i < 93
          · by_cases g89 : i < 89
            · by_cases g87 : i < 87
              · by_cases g86 : i < 86
                · exact go 85 (by omega) xm_85
                · exact go 86 (by omega) xm_86
              · by_cases g88 : i < 88
                · exact go 87 (by omega) xm_87
                · exact go 88 (by omega) xm_88
            · by_cases g91 : i < 91
              · by_cases g90 : i < 90
                · exact go 89 (by omega) xm_89
                · exact go 90 (by omega) xm_90
              · by_cases g92 : i < 92
                · exact go 91 (by omega) xm_91
                · exact go 92 (by omega) xm_92
          · by_cases g97 : i < 97
            · by_cases g95 : i < 95
              · by_cases g94 : i < 94
                · exact go 93 (by omega) xm_93
                · exact go 94 (by omega) xm_94
              · by_cases g96 : i < 96
                · exact go 95 (by omega) xm_95
                · exact go 96 (by omega) xm_96
            · by_cases g99 : i < 99
              · by_cases g98 : i < 98
                · exact go 97 (by omega) xm_97
                · exact go 98 (by omega) xm_98
              · by_cases g100 : i < 100
                · exact go 99 (by omega) xm_99
                · by_cases g101 : i < 101
                  · exact go 100 (by omega) xm_100
                  · exact go 101 (by omega) xm_101
      · by_cases g119 : i < 119
        · by_cases g110 : i < 110
          · by_cases g106 : i < 106
            · by_cases g104 : i < 104
              · by_cases g103 : i < 103
                · exact go 102 (by omega) xm_102
                · exact go 103 (by omega) xm_103
              · by_cases g105 : i < 105
                · exact go 104 (by omega) xm_104
                · exact go 105 (by omega) xm_105
            · by_cases g108 : i < 108
              · by_cases g107 : i < 107
                · exact go 106 (by omega) xm_106
                · exact go 107 (by omega) xm_107
              · by_cases g109 : i < 109
                · exact go 108 (by omega) xm_108
                · exact go 109 (by omega) xm_109
          · by_cases g114 : i < 114
            · by_cases g112 : i < 112
              · by_cases g111 : i < 111
                · exact go 110 (by omega) xm_110
                · exact go 111 (by omega) xm_111
              · by_cases g113 : i < 113
                · exact go 112 (by omega) xm_112
                · exact go 113 (by omega) xm_113
            · by_cases g116 : i < 116
              · by_cases g115 : i < 115
                · exact go 114 (by omega) xm_114
                · exact go 115 (by omega) xm_115
              · by_cases g117 : i < 117
                · exact go 116 (by omega) xm_116
                · by_cases g118 : i < 118
                  · exact go 117 (by omega) xm_117
                  · exact go 118 (by omega) xm_118
        · by_cases g127 : i < 127
          · by_cases g123 : i < 123
            · by_cases g121 : i < 121
              · by_cases g120 : i < 120
                · exact go 119 (by omega) xm_119
                · exact go 120 (by omega) xm_120
              · by_cases g122 : i < 122
                · exact go 121 (by omega) xm_121
                · exact go 122 (by omega) xm_122
            · by_cases g125 : i < 125
              · by_cases g124 : i < 124
                · exact go 123 (by omega) xm_123
                · exact go 124 (by omega) xm_124
              · by_cases g126 : i < 126
                · exact go 125 (by omega) xm_125
                · exact go 126 (by omega) xm_126
          · by_cases g131 : i < 131
            · by_cases g129 : i < 129
              · by_cases g128 : i < 128
                · exact go 127 (by omega) xm_127
                · exact go 128 (by omega) xm_128
              · by_cases g130 : i < 130
                · exact go 129 (by omega) xm_129
                · exact go 130 (by omega) xm_130
            · by_cases g133 : i < 133
              · by_cases g132 : i < 132
                · exact go 131 (by omega) xm_131
                · exact go 132 (by omega) xm_132
              · by_cases g134 : i < 134
                · exact go 133 (by omega) xm_133
                · by_cases g135 : i < 135
                  · exact go 134 (by omega) xm_134
                  · exact go 135 (by omega) xm_135
  · by_cases g204 : i < 204
    · by_cases g170 : i < 170
      · by_cases g153 : i < 153
        · by_cases g144 : i < 144
          · by_cases g140 : i < 140
            · by_cases g138 : i < 138
              · by_cases g137 : i < 137
                · exact go 136 (by omega) xm_136
                · exact go 137 (by omega) xm_137
              · by_cases g139 : i < 139
                · exact go 138 (by omega) xm_138
                · exact go 139 (by omega) xm_139
            · by_cases g142 : i < 142
              · by_cases g141 : i < 141
                · exact go 140 (by omega) xm_140
                · exact go 141 (by omega) xm_141
              · by_cases g143 : i < 143
                · exact go 142 (by omega) xm_142
                · exact go 143 (by omega) xm_143
          · by_cases g148 : i < 148
            · by_cases g146 : i < 146
              · by_cases g145 : i < 145
                · exact go 144 (by omega) xm_144
                · exact go 145 (by omega) xm_145
              · by_cases g147 : i < 147
                · exact go 146 (by omega) xm_146
                · exact go 147 (by omega) xm_147
            · by_cases g150 : i < 150
              · by_cases g149 : i < 149
                · exact go 148 (by omega) xm_148
                · exact go 149 (by omega) xm_149
              · by_cases g151 : i < 151
                · exact go 150 (by omega) xm_150
                · by_cases g152 : i < 152
                  · exact go 151 (by omega) xm_151
                  · exact go 152 (by omega) xm_152
        · by_cases g161 : i < 161
          · by_cases g157 : i < 157
            · by_cases g155 : i < 155
              · by_cases g154 : i < 154
                · exact go 153 (by omega) xm_153
                · exact go 154 (by omega) xm_154
              · by_cases g156 : i < 156
                · exact go 155 (by omega) xm_155
                · exact go 156 (by omega) xm_156
            · by_cases g159 : i < 159
              · by_cases g158 : i < 158
                · exact go 157 (by omega) xm_157
                · exact go 158 (by omega) xm_158
              · by_cases g160 : i < 160
                · exact go 159 (by omega) xm_159
                · exact go 160 (by omega) xm_160
          · by_cases g165 : i < 165
            · by_cases g163 : i < 163
              · by_cases g162 : i < 162
                · exact go 161 (by omega) xm_161
                · exact go 162 (by omega) xm_162
              · by_cases g164 : i < 164
                · exact go 163 (by omega) xm_163
                · exact go 164 (by omega) xm_164
            · by_cases g167 : i < 167
              · by_cases g166 : i < 166
                · exact go 165 (by omega) xm_165
                · exact go 166 (by omega) xm_166
              · by_cases g168 : i < 168
                · exact go 167 (by omega) xm_167
                · by_cases g169 : i < 169
                  · exact go 168 (by omega) xm_168
                  · exact go 169 (by omega) xm_169
      · by_cases g187 : i < 187
        · by_cases g178 : i < 178
          · by_cases g174 : i < 174
            · by_cases g172 : i < 172
              · by_cases g171 : i < 171
                · exact go 170 (by omega) xm_170
                · exact go 171 (by omega) xm_171
              · by_cases g173 : i < 173
                · exact go 172 (by omega) xm_172
                · exact go 173 (by omega) xm_173
            · by_cases g176 : i < 176
              · by_cases g175 : i < 175
                · exact go 174 (by omega) xm_174
                · exact go 175 (by omega) xm_175
              · by_cases g177 : i < 177
                · exact go 176 (by omega) xm_176
                · exact go 177 (by omega) xm_177
          · by_cases g182 : i < 182
            · by_cases g180 : i < 180
              · by_cases g179 : i < 179
                · exact go 178 (by omega) xm_178
                · exact go 179 (by omega) xm_179
              · by_cases g181 : i < 181
                · exact go 180 (by omega) xm_180
                · exact go 181 (by omega) xm_181
            · by_cases g184 : i < 184
              · by_cases g183 : i < 183
                · exact go 182 (by omega) xm_182
                · exact go 183 (by omega) xm_183
              · by_cases g185 : i < 185
                · exact go 184 (by omega) xm_184
                · by_cases g186 : i < 186
                  · exact go 185 (by omega) xm_185
                  · exact go 186 (by omega) xm_186
        · by_cases g195 : i < 195
          · by_cases g191 : i < 191
            · by_cases g189 : i < 189
              · by_cases g188 : i < 188
                · exact go 187 (by omega) xm_187
                · exact go 188 (by omega) xm_188
              · by_cases g190 : i < 190
                · exact go 189 (by omega) xm_189
                · exact go 190 (by omega) xm_190
            · by_cases g193 : i < 193
              · by_cases g192 : i < 192
                · exact go 191 (by omega) xm_191
                · exact go 192 (by omega) xm_192
              · by_cases g194 : i < 194
                · exact go 193 (by omega) xm_193
                · exact go 194 (by omega) xm_194
          · by_cases g199 : i < 199
            · by_cases g197 : i < 197
              · by_cases g196 : i < 196
                · exact go 195 (by omega) xm_195
                · exact go 196 (by omega) xm_196
              · by_cases g198 : i < 198
                · exact go 197 (by omega) xm_197
                · exact go 198 (by omega) xm_198
            · by_cases g201 : i < 201
              · by_cases g200 : i < 200
                · exact go 199 (by omega) xm_199
                · exact go 200 (by omega) xm_200
              · by_cases g202 : i < 202
                · exact go 201 (by omega) xm_201
                · by_cases g203 : i < 203
                  · exact go 202 (by omega) xm_202
                  · exact go 203 (by omega) xm_203
    · by_cases g238 : i < 238
      · by_cases g221 : i < 221
        · by_cases g212 : i < 212
          · by_cases g208 : i < 208
            · by_cases g206 : i < 206
              · by_cases g205 : i < 205
                · exact go 204 (by omega) xm_204
                · exact go 205 (by omega) xm_205
              · by_cases g207 : i < 207
                · exact go 206 (by omega) xm_206
                · exact go 207 (by omega) xm_207
            · by_cases g210 : i < 210
              · by_cases g209 : i < 209
                · exact go 208 (by omega) xm_208
                · exact go 209 (by omega) xm_209
              · by_cases g211 : i < 211
                · exact go 210 (by omega) xm_210
                · exact go 211 (by omega) xm_211
          · by_cases g216 : i < 216
            · by_cases g214 : i < 214
              · by_cases g213 : i < 213
                · exact go 212 (by omega) xm_212
                · exact go 213 (by omega) xm_213
              · by_cases g215 : i < 215
                · exact go 214 (by omega) xm_214
                · exact go 215 (by omega) xm_215
            · by_cases g218 : i < 218
              · by_cases g217 : i < 217
                · exact go 216 (by omega) xm_216
                · exact go 217 (by omega) xm_217
              · by_cases g219 : i < 219
                · exact go 218 (by omega) xm_218
                · by_cases g220 : i < 220
                  · exact go 219 (by omega) xm_219
                  · exact go 220 (by omega) xm_220
        · by_cases g229 : i < 229
          · by_cases g225 : i < 225
            · by_cases g223 : i < 223
              · by_cases g222 : i < 222
                · exact go 221 (by omega) xm_221
                · exact go 222 (by omega) xm_222
              · by_cases g224 : i < 224
                · exact go 223 (by omega) xm_223
                · exact go 224 (by omega) xm_224
            · by_cases g227 : i < 227
              · by_cases g226 : i < 226
                · exact go 225 (by omega) xm_225
                · exact go 226 (by omega) xm_226
              · by_cases g228 : i < 228
                · exact go 227 (by omega) xm_227
                · exact go 228 (by omega) xm_228
          · by_cases g233 : i < 233
            · by_cases g231 : i < 231
              · by_cases g230 : i < 230
                · exact go 229 (by omega) xm_229
                · exact go 230 (by omega) xm_230
              · by_cases g232 : i < 232
                · exact go 231 (by omega) xm_231
                · exact go 232 (by omega) xm_232
            · by_cases g235 : i < 235
              · by_cases g234 : i < 234
                · exact go 233 (by omega) xm_233
                · exact go 234 (by omega) xm_234
              · by_cases g236 : i < 236
                · exact go 235 (by omega) xm_235
                · by_cases g237 : i < 237
                  · exact go 236 (by omega) xm_236
                  · exact go 237 (by omega) xm_237
      · by_cases g255 : i < 255
        · by_cases g246 : i < 246
          · by_cases g242 : i < 242
            · by_cases g240 : i < 240
              · by_cases g239 : i < 239
                · exact go 238 (by omega) xm_238
                · exact go 239 (by omega) xm_239
              · by_cases g241 : i < 241
                · exact go 240 (by omega) xm_240
                · exact go 241 (by omega) xm_241
            · by_cases g244 : i < 244
              · by_cases g243 : i < 243
                · exact go 242 (by omega) xm_242
                · exact go 243 (by omega) xm_243
              · by_cases g245 : i < 245
                · exact go 244 (by omega) xm_244
                · exact go 245 (by omega) xm_245
          · by_cases g250 : i < 250
            · by_cases g248 : i < 248
              · by_cases g247 : i < 247
                · exact go 246 (by omega) xm_246
                · exact go 247 (by omega) xm_247
              · by_cases g249 : i < 249
                · exact go 248 (by omega) xm_248
                · exact go 249 (by omega) xm_249
            · by_cases g252 : i < 252
              · by_cases g251 : i < 251
                · exact go 250 (by omega) xm_250
                · exact go 251 (by omega) xm_251
              · by_cases g253 : i < 253
                · exact go 252 (by omega) xm_252
                · by_cases g254 : i < 254
                  · exact go 253 (by omega) xm_253
                  · exact go 254 (by omega) xm_254
        · by_cases g263 : i < 263
          · by_cases g259 : i < 259
            · by_cases g257 : i < 257
              · by_cases g256 : i < 256
                · exact go 255 (by omega) xm_255
                · exact go 256 (by omega) xm_256
              · by_cases g258 : i < 258
                · exact go 257 (by omega) xm_257
                · exact go 258 (by omega) xm_258
            · by_cases g261 : i < 261
              · by_cases g260 : i < 260
                · exact go 259 (by omega) xm_259
                · exact go 260 (by omega) xm_260
              · by_cases g262 : i < 262
                · exact go 261 (by omega) xm_261
                · exact go 262 (by omega) xm_262
          · by_cases g267 : i < 267
            · by_cases g265 : i < 265
              · by_cases g264 : i < 264
                · exact go 263 (by omega) xm_263
                · exact go 264 (by omega) xm_264
              · by_cases g266 : i < 266
                · exact go 265 (by omega) xm_265
                · exact go 266 (by omega) xm_266
            · by_cases g269 : i < 269
              · by_cases g268 : i < 268
                · exact go 267 (by omega) xm_267
                · exact go 268 (by omega) xm_268
              · by_cases g270 : i < 270
                · exact go 269 (by omega) xm_269
                · by_cases g271 : i < 271
                  · exact go 270 (by omega) xm_270
                  · exact go 271 (by omega) xm_271
