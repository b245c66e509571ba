theorem am_u0 : ∀ M, M < 0 → am_ckA M = true := fun M h => absurd h (Nat.not_lt_zero M)
theorem am_u1 : ∀ M, M < 1 → am_ckA M = true := am_up1 am_u0 am_k0
theorem am_u2 : ∀ M, M < 2 → am_ckA M = true := am_up1 am_u1 am_k1
theorem am_u3 : ∀ M, M < 3 → am_ckA M = true := am_up1 am_u2 am_k2
theorem am_u4 : ∀ M, M < 4 → am_ckA M = true := am_up1 am_u3 am_k3
theorem am_u5 : ∀ M, M < 5 → am_ckA M = true := am_up1 am_u4 am_k4
theorem am_u6 : ∀ M, M < 6 → am_ckA M = true := am_up1 am_u5 am_k5
theorem am_u7 : ∀ M, M < 7 → am_ckA M = true := am_up1 am_u6 am_k6
theorem am_u8 : ∀ M, M < 8 → am_ckA M = true := am_up1 am_u7 am_k7
theorem am_u9 : ∀ M, M < 9 → am_ckA M = true := am_up1 am_u8 am_k8
theorem am_u10 : ∀ M, M < 10 → am_ckA M = true := am_up1 am_u9 am_k9
theorem am_u11 : ∀ M, M < 11 → am_ckA M = true := am_up1 am_u10 am_k10
theorem am_u12 : ∀ M, M < 12 → am_ckA M = true := am_up1 am_u11 am_k11
theorem am_u13 : ∀ M, M < 13 → am_ckA M = true := am_up1 am_u12 am_k12
theorem am_u14 : ∀ M, M < 14 → am_ckA M = true := am_up1 am_u13 am_k13
theorem am_u15 : ∀ M, M < 15 → am_ckA M = true := am_up1 am_u14 am_k14
theorem am_u16 : ∀ M, M < 16 → am_ckA M = true := am_up1 am_u15 am_k15
theorem am_u17 : ∀ M, M < 17 → am_ckA M = true := am_up1 am_u16 am_k16
theorem am_u18 : ∀ M, M < 18 → am_ckA M = true := am_up1 am_u17 am_k17
theorem am_u19 : ∀ M, M < 19 → am_ckA M = true := am_up1 am_u18 am_k18
theorem am_u20 : ∀ M, M < 20 → am_ckA M = true := am_up1 am_u19 am_k19
theorem am_u21 : ∀ M, M < 21 → am_ckA M = true := am_up1 am_u20 am_k20
theorem am_u22 : ∀ M, M < 22 → am_ckA M = true := am_up1 am_u21 am_k21
theorem am_u23 : ∀ M, M < 23 → am_ckA M = true := am_up1 am_u22 am_k22
theorem am_u24 : ∀ M, M < 24 → am_ckA M = true := am_up1 am_u23 am_k23
theorem am_u25 : ∀ M, M < 25 → am_ckA M = true := am_up1 am_u24 am_k24
theorem am_u26 : ∀ M, M < 26 → am_ckA M = true := am_up1 am_u25 am_k25
theorem am_u27 : ∀ M, M < 27 → am_ckA M = true := am_up1 am_u26 am_k26
theorem am_u28 : ∀ M, M < 28 → am_ckA M = true := am_up1 am_u27 am_k27
theorem am_u29 : ∀ M, M < 29 → am_ckA M = true := am_up1 am_u28 am_k28
theorem am_u30 : ∀ M, M < 30 → am_ckA M = true := am_up1 am_u29 am_k29
theorem am_u31 : ∀ M, M < 31 → am_ckA M = true := am_up1 am_u30 am_k30
theorem am_u32 : ∀ M, M < 32 → am_ckA M = true := am_up1 am_u31 am_k31
theorem am_u33 : ∀ M, M < 33 → am_ckA M = true := am_up1 am_u32 am_k32
theorem am_u34 : ∀ M, M < 34 → am_ckA M = true := am_up1 am_u33 am_k33
theorem am_u35 : ∀ M, M < 35 → am_ckA M = true := am_up1 am_u34 am_k34
theorem am_u36 : ∀ M, M < 36 → am_ckA M = true := am_up1 am_u35 am_k35
theorem am_u37 : ∀ M, M < 37 → am_ckA M = true := am_up1 am_u36 am_k36
theorem am_u38 : ∀ M, M < 38 → am_ckA M = true := am_up1 am_u37 am_k37
theorem am_u39 : ∀ M, M < 39 → am_ckA M = true := am_up1 am_u38 am_k38
theorem am_u40 : ∀ M, M < 40 → am_ckA M = true := am_up1 am_u39 am_k39
theorem am_u41 : ∀ M, M < 41 → am_ckA M = true := am_up1 am_u40 am_k40
theorem am_u42 : ∀ M, M < 42 → am_ckA M = true := am_up1 am_u41 am_k41
theorem am_u43 : ∀ M, M < 43 → am_ckA M = true := am_up1 am_u42 am_k42
theorem am_u44 : ∀ M, M < 44 → am_ckA M = true := am_up1 am_u43 am_k43
theorem am_u45 : ∀ M, M < 45 → am_ckA M = true := am_up1 am_u44 am_k44
theorem am_u46 : ∀ M, M < 46 → am_ckA M = true := am_up1 am_u45 am_k45
theorem am_u47 : ∀ M, M < 47 → am_ckA M = true := am_up1 am_u46 am_k46
theorem am_u48 : ∀ M, M < 48 → am_ckA M = true := am_up1 am_u47 am_k47
theorem am_u49 : ∀ M, M < 49 → am_ckA M = true := am_up1 am_u48 am_k48
theorem am_u50 : ∀ M, M < 50 → am_ckA M = true := am_up1 am_u49 am_k49
theorem am_u51 : ∀ M, M < 51 → am_ckA M = true := am_up1 am_u50 am_k50
theorem am_u52 : ∀ M, M < 52 → am_ckA M = true := am_up1 am_u51 am_k51
theorem am_u53 : ∀ M, M < 53 → am_ckA M = true := am_up1 am_u52 am_k52
theorem am_u54 : ∀ M, M < 54 → am_ckA M = true := am_up1 am_u53 am_k53
theorem am_u55 : ∀ M, M < 55 → am_ckA M = true := am_up1 am_u54 am_k54
theorem am_u56 : ∀ M, M < 56 → am_ckA M = true := am_up1 am_u55 am_k55
theorem am_u57 : ∀ M, M < 57 → am_ckA M = true := am_up1 am_u56 am_k56
theorem am_u58 : ∀ M, M < 58 → am_ckA M = true := am_up1 am_u57 am_k57
theorem am_u59 : ∀ M, M < 59 → am_ckA M = true := am_up1 am_u58 am_k58
theorem am_u60 : ∀ M, M < 60 → am_ckA M = true := am_up1 am_u59 am_k59
theorem am_u61 : ∀ M, M < 61 → am_ckA M = true := am_up1 am_u60 am_k60
theorem am_u62 : ∀ M, M < 62 → am_ckA M = true := am_up1 am_u61 am_k61
theorem am_u63 : ∀ M, M < 63 → am_ckA M = true := am_up1 am_u62 am_k62
theorem am_u64 : ∀ M, M < 64 → am_ckA M = true := am_up1 am_u63 am_k63
theorem am_u65 : ∀ M, M < 65 → am_ckA M = true := am_up1 am_u64 am_k64
theorem am_u66 : ∀ M, M < 66 → am_ckA M = true := am_up1 am_u65 am_k65
theorem am_u67 : ∀ M, M < 67 → am_ckA M = true := am_up1 am_u66 am_k66
theorem am_u68 : ∀ M, M < 68 → am_ckA M = true := am_up1 am_u67 am_k67
theorem am_u69 : ∀ M, M < 69 → am_ckA M = true := am_up1 am_u68 am_k68
theorem am_u70 : ∀ M, M < 70 → am_ckA M = true := am_up1 am_u69 am_k69
theorem am_u71 : ∀ M, M < 71 → am_ckA M = true := am_up1 am_u70 am_k70
theorem am_u72 : ∀ M, M < 72 → am_ckA M = true := am_up1 am_u71 am_k71
theorem am_u73 : ∀ M, M < 73 → am_ckA M = true := am_up1 am_u72 am_k72
theorem am_u74 : ∀ M, M < 74 → am_ckA M = true := am_up1 am_u73 am_k73
theorem am_u75 : ∀ M, M < 75 → am_ckA M = true := am_up1 am_u74 am_k74
theorem am_u76 : ∀ M, M < 76 → am_ckA M = true := am_up1 am_u75 am_k75
theorem am_u77 : ∀ M, M < 77 → am_ckA M = true := am_up1 am_u76 am_k76
theorem am_u78 : ∀ M, M < 78 → am_ckA M = true := am_up1 am_u77 am_k77
theorem am_u79 : ∀ M, M < 79 → am_ckA M = true := am_up1 am_u78 am_k78
theorem am_u80 : ∀ M, M < 80 → am_ckA M = true := am_up1 am_u79 am_k79
theorem am_u81 : ∀ M, M < 81 → am_ckA M = true := am_up1 am_u80 am_k80
theorem am_u82 : ∀ M, M < 82 → am_ckA M = true := am_up1 am_u81 am_k81
theorem am_u83 : ∀ M, M < 83 → am_ckA M = true := am_up1 am_u82 am_k82
theorem am_u84 : ∀ M, M < 84 → am_ckA M = true := am_up1 am_u83 am_k83
theorem am_u85 : ∀ M, M < 85 → am_ckA M = true := am_up1 am_u84 am_k84
theorem am_u86 : ∀ M, M < 86 → am_ckA M = true := am_up1 am_u85 am_k85
theorem am_u87 : ∀ M, M < 87 → am_ckA M = true := am_up1 am_u86 am_k86
theorem am_u88 : ∀ M, M < 88 → am_ckA M = true := am_up1 am_u87 am_k87
theorem am_u89 : ∀ M, M < 89 → am_ckA M = true := am_up1 am_u88 am_k88
theorem am_u90 : ∀ M, M < 90 → am_ckA M = true := am_up1 am_u89 am_k89
theorem am_u91 : ∀ M, M < 91 → am_ckA M = true := am_up1 am_u90 am_k90
theorem am_u92 : ∀ M, M < 92 → am_ckA M = true := am_up1 am_u91 am_k91
theorem am_u93 : ∀ M, M < 93 → am_ckA M = true := am_up1 am_u92 am_k92
theorem am_u94 : ∀ M, M < 94 → am_ckA M = true := am_up1 am_u93 am_k93
theorem am_u95 : ∀ M, M < 95 → am_ckA M = true := am_up1 am_u94 am_k94
theorem am_u96 : ∀ M, M < 96 → am_ckA M = true := am_up1 am_u95 am_k95
theorem am_u97 : ∀ M, M < 97 → am_ckA M = true := am_up1 am_u96 am_k96
theorem am_u98 : ∀ M, M < 98 → am_ckA M = true := am_up1 am_u97 am_k97
theorem am_u99 : ∀ M, M < 99 → am_ckA M = true := am_up1 am_u98 am_k98
theorem am_u100 : ∀ M, M < 100 → am_ckA M = true := am_up1 am_u99 am_k99
theorem am_u101 : ∀ M, M < 101 → am_ckA M = true := am_up1 am_u100 am_k100
theorem am_u102 : ∀ M, M < 102 → am_ckA M = true := am_up1 am_u101 am_k101
theorem am_u103 : ∀ M, M < 103 → am_ckA M = true := am_up1 am_u102 am_k102
theorem am_u104 : ∀ M, M < 104 → am_ckA M = true := am_up1 am_u103 am_k103
theorem am_u105 : ∀ M, M < 105 → am_ckA M = true := am_up1 am_u104 am_k104
theorem am_u106 : ∀ M, M < 106 → am_ckA M = true := am_up1 am_u105 am_k105
theorem am_u107 : ∀ M, M < 107 → am_ckA M = true := am_up1 am_u106 am_k106
theorem am_u108 : ∀ M, M < 108 → am_ckA M = true := am_up1 am_u107 am_k107
theorem am_u109 : ∀ M, M < 109 → am_ckA M = true := am_up1 am_u108 am_k108
theorem am_u110 : ∀ M, M < 110 → am_ckA M = true := am_up1 am_u109 am_k109
theorem am_u111 : ∀ M, M < 111 → am_ckA M = true := am_up1 am_u110 am_k110
theorem am_u112 : ∀ M, M < 112 → am_ckA M = true := am_up1 am_u111 am_k111
theorem am_u113 : ∀ M, M < 113 → am_ckA M = true := am_up1 am_u112 am_k112
theorem am_u114 : ∀ M, M < 114 → am_ckA M = true := am_up1 am_u113 am_k113
theorem am_u115 : ∀ M, M < 115 → am_ckA M = true := am_up1 am_u114 am_k114
theorem am_u116 : ∀ M, M < 116 → am_ckA M = true := am_up1 am_u115 am_k115
theorem am_u117 : ∀ M, M < 117 → am_ckA M = true := am_up1 am_u116 am_k116
theorem am_u118 : ∀ M, M < 118 → am_ckA M = true := am_up1 am_u117 am_k117
theorem am_u119 : ∀ M, M < 119 → am_ckA M = true := am_up1 am_u118 am_k118
theorem am_u120 : ∀ M, M < 120 → am_ckA M = true := am_up1 am_u119 am_k119
theorem am_u121 : ∀ M, M < 121 → am_ckA M = true := am_up1 am_u120 am_k120
theorem am_u122 : ∀ M, M < 122 → am_ckA M = true := am_up1 am_u121 am_k121
theorem am_u123 : ∀ M, M < 123 → am_ckA M = true := am_up1 am_u122 am_k122
theorem am_u124 : ∀ M, M < 124 → am_ckA M = true := am_up1 am_u123 am_k123
theorem am_u125 : ∀ M, M < 125 → am_ckA M = true := am_up1 am_u124 am_k124
theorem am_u126 : ∀ M, M < 126 → am_ckA M = true := am_up1 am_u125 am_k125
theorem am_u127 : ∀ M, M < 127 → am_ckA M = true := am_up1 am_u126 am_k126
theorem am_u128 : ∀ M, M < 128 → am_ckA M = true := am_up1 am_u127 am_k127
theorem am_u129 : ∀ M, M < 129 → am_ckA M = true := am_up1 am_u128 am_k128
theorem am_u130 : ∀ M, M < 130 → am_ckA M = true := am_up1 am_u129 am_k129
theorem am_u131 : ∀ M, M < 131 → am_ckA M = true := am_up1 am_u130 am_k130
theorem am_u132 : ∀ M, M < 132 → am_ckA M = true := am_up1 am_u131 am_k131
theorem am_u133 : ∀ M, M < 133 → am_ckA M = true := am_up1 am_u132 am_k132
theorem am_u134 : ∀ M, M < 134 → am_ckA M = true := am_up1 am_u133 am_k133
theorem am_u135 : ∀ M, M < 135 → am_ckA M = true := am_up1 am_u134 am_k134
theorem am_u136 : ∀ M, M < 136 → am_ckA M = true := am_up1 am_u135 am_k135
theorem am_u137 : ∀ M, M < 137 → am_ckA M = true := am_up1 am_u136 am_k136
theorem am_u138 : ∀ M, M < 138 → am_ckA M = true := am_up1 am_u137 am_k137
theorem am_u139 : ∀ M, M < 139 → am_ckA M = true := am_up1 am_u138 am_k138
theorem am_u140 : ∀ M, M < 140 → am_ckA M = true := am_up1 am_u139 am_k139
theorem am_u141 : ∀ M, M < 141 → am_ckA M = true := am_up1 am_u140 am_k140
theorem am_u142 : ∀ M, M < 142 → am_ckA M = true := am_up1 am_u141 am_k141
theorem am_u143 : ∀ M, M < 143 → am_ckA M = true := am_up1 am_u142 am_k142
theorem am_u144 : ∀ M, M < 144 → am_ckA M = true := am_up1 am_u143 am_k143
theorem am_u145 : ∀ M, M < 145 → am_ckA M = true := am_up1 am_u144 am_k144
theorem am_u146 : ∀ M, M < 146 → am_ckA M = true := am_up1 am_u145 am_k145
theorem am_u147 : ∀ M, M < 147 → am_ckA M = true := am_up1 am_u146 am_k146
theorem am_u148 : ∀ M, M < 148 → am_ckA M = true := am_up1 am_u147 am_k147
theorem am_u149 : ∀ M, M < 149 → am_ckA M = true := am_up1 am_u148 am_k148
theorem am_u150 : ∀ M, M < 150 → am_ckA M = true := am_up1 am_u149 am_k149
theorem am_u151 : ∀ M, M < 151 → am_ckA M = true := am_up1 am_u150 am_k150
theorem am_u152 : ∀ M, M < 152 → am_ckA M = true := am_up1 am_u151 am_k151
theorem am_u153 : ∀ M, M < 153 → am_ckA M = true := am_up1 am_u152 am_k152
theorem am_u154 : ∀ M, M < 154 → am_ckA M = true := am_up1 am_u153 am_k153
theorem am_u155 : ∀ M, M < 155 → am_ckA M = true := am_up1 am_u154 am_k154
theorem am_u156 : ∀ M, M < 156 → am_ckA M = true := am_up1 am_u155 am_k155
theorem am_u157 : ∀ M, M < 157 → am_ckA M = true := am_up1 am_u156 am_k156
theorem am_u158 : ∀ M, M < 158 → am_ckA M = true := am_up1 am_u157 am_k157
theorem am_u159 : ∀ M, M < 159 → am_ckA M = true := am_up1 am_u158 am_k158
theorem am_u160 : ∀ M, M < 160 → am_ckA M = true := am_up1 am_u159 am_k159
theorem am_u161 : ∀ M, M < 161 → am_ckA M = true := am_up1 am_u160 am_k160
theorem am_u162 : ∀ M, M < 162 → am_ckA M = true := am_up1 am_u161 am_k161
theorem am_u163 : ∀ M, M < 163 → am_ckA M = true := am_up1 am_u162 am_k162
theorem am_u164 : ∀ M, M < 164 → am_ckA M = true := am_up1 am_u163 am_k163
theorem am_u165 : ∀ M, M < 165 → am_ckA M = true := am_up1 am_u164 am_k164
theorem am_u166 : ∀ M, M < 166 → am_ckA M = true := am_up1 am_u165 am_k165
theorem am_u167 : ∀ M, M < 167 → am_ckA M = true := am_up1 am_u166 am_k166
theorem am_u168 : ∀ M, M < 168 → am_ckA M = true := am_up1 am_u167 am_k167
theorem am_u169 : ∀ M, M < 169 → am_ckA M = true := am_up1 am_u168 am_k168
theorem am_u170 : ∀ M, M < 170 → am_ckA M = true := am_up1 am_u169 am_k169
theorem am_u171 : ∀ M, M < 171 → am_ckA M = true := am_up1 am_u170 am_k170
theorem am_u172 : ∀ M, M < 172 → am_ckA M = true := am_up1 am_u171 am_k171
theorem am_u173 : ∀ M, M < 173 → am_ckA M = true := am_up1 am_u172 am_k172
theorem am_u174 : ∀ M, M < 174 → am_ckA M = true := am_up1 am_u173 am_k173
theorem am_u175 : ∀ M, M < 175 → am_ckA M = true := am_up1 am_u174 am_k174
theorem am_u176 : ∀ M, M < 176 → am_ckA M = true := am_up1 am_u175 am_k175
theorem am_u177 : ∀ M, M < 177 → am_ckA M = true := am_up1 am_u176 am_k176
theorem am_u178 : ∀ M, M < 178 → am_ckA M = true := am_up1 am_u177 am_k177
theorem am_u179 : ∀ M, M < 179 → am_ckA M = true := am_up1 am_u178 am_k178
theorem am_u180 : ∀ M, M < 180 → am_ckA M = true := am_up1 am_u179 am_k179
theorem am_u181 : ∀ M, M < 181 → am_ckA M = true := am_up1 am_u180 am_k180
theorem am_u182 : ∀ M, M < 182 → am_ckA M = true := am_up1 am_u181 am_k181
theorem am_u183 : ∀ M, M < 183 → am_ckA M = true := am_up1 am_u182 am_k182
theorem am_u184 : ∀ M, M < 184 → am_ckA M = true := am_up1 am_u183 am_k183
theorem am_u185 : ∀ M, M < 185 → am_ckA M = true := am_up1 am_u184 am_k184
theorem am_u186 : ∀ M, M < 186 → am_ckA M = true := am_up1 am_u185 am_k185
theorem am_u187 : ∀ M, M < 187 → am_ckA M = true := am_up1 am_u186 am_k186
theorem am_u188 : ∀ M, M < 188 → am_ckA M = true := am_up1 am_u187 am_k187
theorem am_u189 : ∀ M, M < 189 → am_ckA M = true := am_up1 am_u188 am_k188
theorem am_u190 : ∀ M, M < 190 → am_ckA M = true := am_up1 am_u189 am_k189
theorem am_u191 : ∀ M, M < 191 → am_ckA M = true := am_up1 am_u190 am_k190
theorem am_u192 : ∀ M, M < 192 → am_ckA M = true := am_up1 am_u191 am_k191
theorem am_u193 : ∀ M, M < 193 → am_ckA M = true := am_up1 am_u192 am_k192
theorem am_u194 : ∀ M, M < 194 → am_ckA M = true := am_up1 am_u193 am_k193
theorem am_u195 : ∀ M, M < 195 → am_ckA M = true := am_up1 am_u194 am_k194
theorem am_u196 : ∀ M, M < 196 → am_ckA M = true := am_up1 am_u195 am_k195
theorem am_u197 : ∀ M, M < 197 → am_ckA M = true := am_up1 am_u196 am_k196
theorem am_u198 : ∀ M, M < 198 → am_ckA M = true := am_up1 am_u197 am_k197
theorem am_u199 : ∀ M, M < 199 → am_ckA M = true := am_up1 am_u198 am_k198
theorem am_u200 : ∀ M, M < 200 → am_ckA M = true := am_up1 am_u199 am_k199
theorem am_u201 : ∀ M, M < 201 → am_ckA M = true := am_up1 am_u200 am_k200
theorem am_u202 : ∀ M, M < 202 → am_ckA M = true := am_up1 am_u201 am_k201
theorem am_u203 : ∀ M, M < 203 → am_ckA M = true := am_up1 am_u202 am_k202
theorem am_u204 : ∀ M, M < 204 → am_ckA M = true := am_up1 am_u203 am_k203
theorem am_u205 : ∀ M, M < 205 → am_ckA M = true := am_up1 am_u204 am_k204
theorem am_u206 : ∀ M, M < 206 → am_ckA M = true := am_up1 am_u205 am_k205
theorem am_u207 : ∀ M, M < 207 → am_ckA M = true := am_up1 am_u206 am_k206
theorem am_u208 : ∀ M, M < 208 → am_ckA M = true := am_up1 am_u207 am_k207
theorem am_u209 : ∀ M, M < 209 → am_ckA M = true := am_up1 am_u208 am_k208
theorem am_u210 : ∀ M, M < 210 → am_ckA M = true := am_up1 am_u209 am_k209
theorem am_u211 : ∀ M, M < 211 → am_ckA M = true := am_up1 am_u210 am_k210
theorem am_u212 : ∀ M, M < 212 → am_ckA M = true := am_up1 am_u211 am_k211
theorem am_u213 : ∀ M, M < 213 → am_ckA M = true := am_up1 am_u212 am_k212
theorem am_u214 : ∀ M, M < 214 → am_ckA M = true := am_up1 am_u213 am_k213
theorem am_u215 : ∀ M, M < 215 → am_ckA M = true := am_up1 am_u214 am_k214
theorem am_u216 : ∀ M, M < 216 → am_ckA M = true := am_up1 am_u215 am_k215
theorem am_u217 : ∀ M, M < 217 → am_ckA M = true := am_up1 am_u216 am_k216
theorem am_u218 : ∀ M, M < 218 → am_ckA M = true := am_up1 am_u217 am_k217
theorem am_u219 : ∀ M, M < 219 → am_ckA M = true := am_up1 am_u218 am_k218
theorem am_u220 : ∀ M, M < 220 → am_ckA M = true := am_up1 am_u219 am_k219
theorem am_u221 : ∀ M, M < 221 → am_ckA M = true := am_up1 am_u220 am_k220
theorem am_u222 : ∀ M, M < 222 → am_ckA M = true := am_up1 am_u221 am_k221
theorem am_u223 : ∀ M, M < 223 → am_ckA M = true := am_up1 am_u222 am_k222
theorem am_u224 : ∀ M, M < 224 → am_ckA M = true := am_up1 am_u223 am_k223
theorem am_u225 : ∀ M, M < 225 → am_ckA M = true := am_up1 am_u224 am_k224
theorem am_u226 : ∀ M, M < 226 → am_ckA M = true := am_up1 am_u225 am_k225
theorem am_u227 : ∀ M, M < 227 → am_ckA M = true := am_up1 am_u226 am_k226
theorem am_u228 : ∀ M, M < 228 → am_ckA M = true := am_up1 am_u227 am_k227
theorem am_u229 : ∀ M, M < 229 → am_ckA M = true := am_up1 am_u228 am_k228
theorem am_u230 : ∀ M, M < 230 → am_ckA M = true := am_up1 am_u229 am_k229
theorem am_u231 : ∀ M, M < 231 → am_ckA M = true := am_up1 am_u230 am_k230
theorem am_u232 : ∀ M, M < 232 → am_ckA M = true := am_up1 am_u231 am_k231
theorem am_u233 : ∀ M, M < 233 → am_ckA M = true := am_up1 am_u232 am_k232
theorem am_u234 : ∀ M, M < 234 → am_ckA M = true := am_up1 am_u233 am_k233
theorem am_u235 : ∀ M, M < 235 → am_ckA M = true := am_up1 am_u234 am_k234
theorem am_u236 : ∀ M, M < 236 → am_ckA M = true := am_up1 am_u235 am_k235
theorem am_u237 : ∀ M, M < 237 → am_ckA M = true := am_up1 am_u236 am_k236
theorem am_u238 : ∀ M, M < 238 → am_ckA M = true := am_up1 am_u237 am_k237
theorem am_u239 : ∀ M, M < 239 → am_ckA M = true := am_up1 am_u238 am_k238
theorem am_u240 : ∀ M, M < 240 → am_ckA M = true := am_up1 am_u239 am_k239
theorem am_u241 : ∀ M, M < 241 → am_ckA M = true := am_up1 am_u240 am_k240
theorem am_u242 : ∀ M, M < 242 → am_ckA M = true := am_up1 am_u241 am_k241
theorem am_u243 : ∀ M, M < 243 → am_ckA M = true := am_up1 am_u242 am_k242
theorem am_u244 : ∀ M, M < 244 → am_ckA M = true := am_up1 am_u243 am_k243
theorem am_u245 : ∀ M, M < 245 → am_ckA M = true := am_up1 am_u244 am_k244
theorem am_u246 : ∀ M, M < 246 → am_ckA M = true := am_up1 am_u245 am_k245
theorem am_u247 : ∀ M, M < 247 → am_ckA M = true := am_up1 am_u246 am_k246
theorem am_u248 : ∀ M, M < 248 → am_ckA M = true := am_up1 am_u247 am_k247
theorem am_u249 : ∀ M, M < 249 → am_ckA M = true := am_up1 am_u248 am_k248
theorem am_u250 : ∀ M, M < 250 → am_ckA M = true := am_up1 am_u249 am_k249
theorem am_u251 : ∀ M, M < 251 → am_ckA M = true := am_up1 am_u250 am_k250
theorem am_u252 : ∀ M, M < 252 → am_ckA M = true := am_up1 am_u251 am_k251
theorem am_u253 : ∀ M, M < 253 → am_ckA M = true := am_up1 am_u252 am_k252
theorem am_u254 : ∀ M, M < 254 → am_ckA M = true := am_up1 am_u253 am_k253
theorem am_u255 : ∀ M, M < 255 → am_ckA M = true := am_up1 am_u254 am_k254
theorem am_u256 : ∀ M, M < 256 → am_ckA M = true := am_up1 am_u255 am_k255
theorem am_u257 : ∀ M, M < 257 → am_ckA M = true := am_up1 am_u256 am_k256
theorem am_u258 : ∀ M, M < 258 → am_ckA M = true := am_up1 am_u257 am_k257
theorem am_u259 : ∀ M, M < 259 → am_ckA M = true := am_up1 am_u258 am_k258
theorem am_u260 : ∀ M, M < 260 → am_ckA M = true := am_up1 am_u259 am_k259
theorem am_u261 : ∀ M, M < 261 → am_ckA M = true := am_up1 am_u260 am_k260
theorem am_u262 : ∀ M, M < 262 → am_ckA M = true := am_up1 am_u261 am_k261
theorem am_u263 : ∀ M, M < 263 → am_ckA M = true := am_up1 am_u262 am_k262
theorem am_u264 : ∀ M, M < 264 → am_ckA M = true := am_up1 am_u263 am_k263
theorem am_u265 : ∀ M, M < 265 → am_ckA M = true := am_up1 am_u264 am_k264
theorem am_u266 : ∀ M, M < 266 → am_ckA M = true := am_up1 am_u265 am_k265
theorem am_u267 : ∀ M, M < 267 → am_ckA M = true := am_up1 am_u266 am_k266
theorem am_u268 : ∀ M, M < 268 → am_ckA M = true := am_up1 am_u267 am_k267
theorem am_u269 : ∀ M, M < 269 → am_ckA M = true := am_up1 am_u268 am_k268
theorem am_u270 : ∀ M, M < 270 → am_ckA M = true := am_up1 am_u269 am_k269
theorem am_u271 : ∀ M, M < 271 → am_ckA M = true := am_up1 am_u270 am_k270
theorem am_u272 : ∀ M, M < 272 → am_ckA M = true := am_up1 am_u271 am_k271
theorem am_u273 : ∀ M, M < 273 → am_ckA M = true := am_up1 am_u272 am_k272
theorem am_u274 : ∀ M, M < 274 → am_ckA M = true := am_up1 am_u273 am_k273
theorem am_u275 : ∀ M, M < 275 → am_ckA M = true := am_up1 am_u274 am_k274
theorem am_u276 : ∀ M, M < 276 → am_ckA M = true := am_up1 am_u275 am_k275
theorem am_u277 : ∀ M, M < 277 → am_ckA M = true := am_up1 am_u276 am_k276
theorem am_u278 : ∀ M, M < 278 → am_ckA M = true := am_up1 am_u277 am_k277
theorem am_u279 : ∀ M, M < 279 → am_ckA M = true := am_up1 am_u278 am_k278
theorem am_u280 : ∀ M, M < 280 → am_ckA M = true := am_up1 am_u279 am_k279
theorem am_u281 : ∀ M, M < 281 → am_ckA M = true := am_up1 am_u280 am_k280
theorem am_u282 : ∀ M, M < 282 → am_ckA M = true := am_up1 am_u281 am_k281
theorem am_u283 : ∀ M, M < 283 → am_ckA M = true := am_up1 am_u282 am_k282
theorem am_u284 : ∀ M, M < 284 → am_ckA M = true := am_up1 am_u283 am_k283
theorem am_u285 : ∀ M, M < 285 → am_ckA M = true := am_up1 am_u284 am_k284
theorem am_u286 : ∀ M, M < 286 → am_ckA M = true := am_up1 am_u285 am_k285
theorem am_u287 : ∀ M, M < 287 → am_ckA M = true := am_up1 am_u286 am_k286
theorem am_u288 : ∀ M, M < 288 → am_ckA M = true := am_up1 am_u287 am_k287
theorem am_u289 : ∀ M, M < 289 → am_ckA M = true := am_up1 am_u288 am_k288
theorem am_u290 : ∀ M, M < 290 → am_ckA M = true := am_up1 am_u289 am_k289
theorem am_u291 : ∀ M, M < 291 → am_ckA M = true := am_up1 am_u290 am_k290
theorem am_u292 : ∀ M, M < 292 → am_ckA M = true := am_up1 am_u291 am_k291
theorem am_u293 : ∀ M, M < 293 → am_ckA M = true := am_up1 am_u292 am_k292
theorem am_u294 : ∀ M, M < 294 → am_ckA M = true := am_up1 am_u293 am_k293
theorem am_u295 : ∀ M, M < 295 → am_ckA M = true := am_up1 am_u294 am_k294
theorem am_u296 : ∀ M, M < 296 → am_ckA M = true := am_up1 am_u295 am_k295
theorem am_u297 : ∀ M, M < 297 → am_ckA M = true := am_up1 am_u296 am_k296
theorem am_u298 : ∀ M, M < 298 → am_ckA M = true := am_up1 am_u297 am_k297
theorem am_u299 : ∀ M, M < 299 → am_ckA M = true := am_up1 am_u298 am_k298
theorem am_u300 : ∀ M, M < 300 → am_ckA M = true := am_up1 am_u299 am_k299
theorem am_u301 : ∀ M, M < 301 → am_ckA M = true := am_up1 am_u300 am_k300
theorem am_u302 : ∀ M, M < 302 → am_ckA M = true := am_up1 am_u301 am_k301
theorem am_u303 : ∀ M, M < 303 → am_ckA M = true := am_up1 am_u302 am_k302
theorem am_u304 : ∀ M, M < 304 → am_ckA M = true := am_up1 am_u303 am_k303
theorem am_okAll : ∀ M, M < am_NM → am_gm am_P am_yN am_cN am_NM am_Ts M := fun M h => am_gm_of (am_u304 M h)
theorem am_okLaw : am_ckM 304 = true := am_m304
def am_ckU (k : Nat) : Bool := (List.range (am_nf k)).all (fun j => am_lw (am_nth (am_nth am_UL k []) j 0) (u_lay (am_cn k) (am_tb k) j))
theorem am_uu0 : am_ckU 0 = true := by decide +kernel
theorem am_uu1 : am_ckU 1 = true := by decide +kernel
theorem am_uu2 : am_ckU 2 = true := by decide +kernel
theorem am_uu3 : am_ckU 3 = true := by decide +kernel
theorem am_uu4 : am_ckU 4 = true := by decide +kernel
theorem am_uu5 : am_ckU 5 = true := by decide +kernel
theorem am_uu6 : am_ckU 6 = true := by decide +kernel
theorem am_uu7 : am_ckU 7 = true := by decide +kernel
theorem am_uu8 : am_ckU 8 = true := by decide +kernel
theorem am_uu9 : am_ckU 9 = true := by decide +kernel
theorem am_uu10 : am_ckU 10 = true := by decide +kernel
theorem am_uu11 : am_ckU 11 = true := by decide +kernel
theorem am_ckU_ok {k : Nat} (h : am_ckU k = true) : ∀ w ∈ u_ws (am_cn k) (am_tb k) (am_nf k), w ∈ am_Ts := by
  intro w hw
  unfold u_ws at hw
  obtain ⟨j, hj, e⟩ := List.mem_map.mp hw
  subst e
  exact am_lw_mem (List.all_eq_true.mp h j hj)
theorem am_okU : ∀ k, k < 12 → ∀ w ∈ u_ws (am_cn k) (am_tb k) (am_nf k), w ∈ am_Ts := by
  intro k hk
  apply am_ckU_ok
  rcases (show k = 0 ∨ k = 1 ∨ k = 2 ∨ k = 3 ∨ k = 4 ∨ k = 5 ∨ k = 6 ∨ k = 7 ∨ k = 8 ∨ k = 9 ∨ k = 10 ∨ k = 11 by omega) with h | h | h | h | h | h | h | h | h | h | h | h <;> subst h
  · exact am_uu0
  · exact am_uu1
  · exact am_uu2
  · exact am_uu3
  · exact am_uu4
  · exact am_uu5
  · exact am_uu6
  · exact am_uu7
  · exact am_uu8
  · exact am_uu9
  · exact am_uu10
  · exact am_uu11
/-- the program: what am_run says of it, the JVM does -/
theorem am_sound0 (l : Launch) (D : va_G) (ad dA : Nat → Nat) (Ls : Nat) (xs : Nat → Int32) : ∀ n, am_IH am_P am_yN am_cN am_NM am_Ts l D ad dA Ls xs n := am_sound am_okU am_good am_okAll
