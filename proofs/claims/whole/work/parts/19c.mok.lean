theorem az_mbs0 : ∀ y M, y < 47 → az_ms (0 + y) = some M → az_mP M := by
  intro y M hy h
  match y, hy, h with
  | 0, _, h => exact (Option.some.inj h) ▸ az_mb0
  | 1, _, h => exact (Option.some.inj h) ▸ az_mb1
  | 2, _, h => exact (Option.some.inj h) ▸ az_mb2
  | 3, _, h => exact (Option.some.inj h) ▸ az_mb3
  | 4, _, h => exact (Option.some.inj h) ▸ az_mb4
  | 5, _, h => exact (Option.some.inj h) ▸ az_mb5
  | 6, _, h => exact (Option.some.inj h) ▸ az_mb6
  | 7, _, h => exact (Option.some.inj h) ▸ az_mb7
  | 8, _, h => exact (Option.some.inj h) ▸ az_mb8
  | 9, _, h => exact (Option.some.inj h) ▸ az_mb9
  | 10, _, h => exact (Option.some.inj h) ▸ az_mb10
  | 11, _, h => exact (Option.some.inj h) ▸ az_mb11
  | 12, _, h => exact (Option.some.inj h) ▸ az_mb12
  | 13, _, h => exact (Option.some.inj h) ▸ az_mb13
  | 14, _, h => exact (Option.some.inj h) ▸ az_mb14
  | 15, _, h => exact (Option.some.inj h) ▸ az_mb15
  | 16, _, h => exact (Option.some.inj h) ▸ az_mb16
  | 17, _, h => exact (Option.some.inj h) ▸ az_mb17
  | 18, _, h => exact (Option.some.inj h) ▸ az_mb18
  | 19, _, h => exact (Option.some.inj h) ▸ az_mb19
  | 20, _, h => exact (Option.some.inj h) ▸ az_mb20
  | 21, _, h => exact (Option.some.inj h) ▸ az_mb21
  | 22, _, h => exact (Option.some.inj h) ▸ az_mb22
  | 23, _, h => exact (Option.some.inj h) ▸ az_mb23
  | 24, _, h => exact (Option.some.inj h) ▸ az_mb24
  | 25, _, h => exact (Option.some.inj h) ▸ az_mb25
  | 26, _, h => exact (Option.some.inj h) ▸ az_mb26
  | 27, _, h => exact (Option.some.inj h) ▸ az_mb27
  | 28, _, h => exact (Option.some.inj h) ▸ az_mb28
  | 29, _, h => exact (Option.some.inj h) ▸ az_mb29
  | 30, _, h => exact (Option.some.inj h) ▸ az_mb30
  | 31, _, h => exact (Option.some.inj h) ▸ az_mb31
  | 32, _, h => exact (Option.some.inj h) ▸ az_mb32
  | 33, _, h => exact (Option.some.inj h) ▸ az_mb33
  | 34, _, h => exact (Option.some.inj h) ▸ az_mb34
  | 35, _, h => exact (Option.some.inj h) ▸ az_mb35
  | 36, _, h => exact (Option.some.inj h) ▸ az_mb36
  | 37, _, h => exact (Option.some.inj h) ▸ az_mb37
  | 38, _, h => exact (Option.some.inj h) ▸ az_mb38
  | 39, _, h => exact (Option.some.inj h) ▸ az_mb39
  | 40, _, h => exact (Option.some.inj h) ▸ az_mb40
  | 41, _, h => exact (Option.some.inj h) ▸ az_mb41
  | 42, _, h => exact (Option.some.inj h) ▸ az_mb42
  | 43, _, h => exact (Option.some.inj h) ▸ az_mb43
  | 44, _, h => exact (Option.some.inj h) ▸ az_mb44
  | 45, _, h => exact (Option.some.inj h) ▸ az_mb45
  | 46, _, h => exact (Option.some.inj h) ▸ az_mb46
  | j + 47, hy, _ => omega
theorem az_mbs1 : ∀ y M, y < 47 → az_ms (47 + y) = some M → az_mP M := by
  intro y M hy h
  match y, hy, h with
  | 0, _, h => exact (Option.some.inj h) ▸ az_mb47
  | 1, _, h => exact (Option.some.inj h) ▸ az_mb48
  | 2, _, h => exact (Option.some.inj h) ▸ az_mb49
  | 3, _, h => exact (Option.some.inj h) ▸ az_mb50
  | 4, _, h => exact (Option.some.inj h) ▸ az_mb51
  | 5, _, h => exact (Option.some.inj h) ▸ az_mb52
  | 6, _, h => exact (Option.some.inj h) ▸ az_mb53
  | 7, _, h => exact (Option.some.inj h) ▸ az_mb54
  | 8, _, h => exact (Option.some.inj h) ▸ az_mb55
  | 9, _, h => exact (Option.some.inj h) ▸ az_mb56
  | 10, _, h => exact (Option.some.inj h) ▸ az_mb57
  | 11, _, h => exact (Option.some.inj h) ▸ az_mb58
  | 12, _, h => exact (Option.some.inj h) ▸ az_mb59
  | 13, _, h => exact (Option.some.inj h) ▸ az_mb60
  | 14, _, h => exact (Option.some.inj h) ▸ az_mb61
  | 15, _, h => exact (Option.some.inj h) ▸ az_mb62
  | 16, _, h => exact (Option.some.inj h) ▸ az_mb63
  | 17, _, h => exact (Option.some.inj h) ▸ az_mb64
  | 18, _, h => exact (Option.some.inj h) ▸ az_mb65
  | 19, _, h => exact (Option.some.inj h) ▸ az_mb66
  | 20, _, h => exact (Option.some.inj h) ▸ az_mb67
  | 21, _, h => exact (Option.some.inj h) ▸ az_mb68
  | 22, _, h => exact (Option.some.inj h) ▸ az_mb69
  | 23, _, h => exact (Option.some.inj h) ▸ az_mb70
  | 24, _, h => exact (Option.some.inj h) ▸ az_mb71
  | 25, _, h => exact (Option.some.inj h) ▸ az_mb72
  | 26, _, h => exact (Option.some.inj h) ▸ az_mb73
  | 27, _, h => exact (Option.some.inj h) ▸ az_mb74
  | 28, _, h => exact (Option.some.inj h) ▸ az_mb75
  | 29, _, h => exact (Option.some.inj h) ▸ az_mb76
  | 30, _, h => exact (Option.some.inj h) ▸ az_mb77
  | 31, _, h => exact (Option.some.inj h) ▸ az_mb78
  | 32, _, h => exact (Option.some.inj h) ▸ az_mb79
  | 33, _, h => exact (Option.some.inj h) ▸ az_mb80
  | 34, _, h => exact (Option.some.inj h) ▸ az_mb81
  | 35, _, h => exact (Option.some.inj h) ▸ az_mb82
  | 36, _, h => exact (Option.some.inj h) ▸ az_mb83
  | 37, _, h => exact (Option.some.inj h) ▸ az_mb84
  | 38, _, h => exact (Option.some.inj h) ▸ az_mb85
  | 39, _, h => exact (Option.some.inj h) ▸ az_mb86
  | 40, _, h => exact (Option.some.inj h) ▸ az_mb87
  | 41, _, h => exact (Option.some.inj h) ▸ az_mb88
  | 42, _, h => exact (Option.some.inj h) ▸ az_mb89
  | 43, _, h => exact (Option.some.inj h) ▸ az_mb90
  | 44, _, h => exact (Option.some.inj h) ▸ az_mb91
  | 45, _, h => exact (Option.some.inj h) ▸ az_mb92
  | 46, _, h => exact (Option.some.inj h) ▸ az_mb93
  | j + 47, hy, _ => omega
theorem az_mbs2 : ∀ y M, y < 47 → az_ms (94 + y) = some M → az_mP M := by
  intro y M hy h
  match y, hy, h with
  | 0, _, h => exact (Option.some.inj h) ▸ az_mb94
  | 1, _, h => exact (Option.some.inj h) ▸ az_mb95
  | 2, _, h => exact (Option.some.inj h) ▸ az_mb96
  | 3, _, h => exact (Option.some.inj h) ▸ az_mb97
  | 4, _, h => exact (Option.some.inj h) ▸ az_mb98
  | 5, _, h => exact (Option.some.inj h) ▸ az_mb99
  | 6, _, h => exact (Option.some.inj h) ▸ az_mb100
  | 7, _, h => exact (Option.some.inj h) ▸ az_mb101
  | 8, _, h => exact (Option.some.inj h) ▸ az_mb102
  | 9, _, h => exact (Option.some.inj h) ▸ az_mb103
  | 10, _, h => exact (Option.some.inj h) ▸ az_mb104
  | 11, _, h => exact (Option.some.inj h) ▸ az_mb105
  | 12, _, h => exact (Option.some.inj h) ▸ az_mb106
  | 13, _, h => exact (Option.some.inj h) ▸ az_mb107
  | 14, _, h => exact (Option.some.inj h) ▸ az_mb108
  | 15, _, h => exact (Option.some.inj h) ▸ az_mb109
  | 16, _, h => exact (Option.some.inj h) ▸ az_mb110
  | 17, _, h => exact (Option.some.inj h) ▸ az_mb111
  | 18, _, h => exact (Option.some.inj h) ▸ az_mb112
  | 19, _, h => exact (Option.some.inj h) ▸ az_mb113
  | 20, _, h => exact (Option.some.inj h) ▸ az_mb114
  | 21, _, h => exact (Option.some.inj h) ▸ az_mb115
  | 22, _, h => exact (Option.some.inj h) ▸ az_mb116
  | 23, _, h => exact (Option.some.inj h) ▸ az_mb117
  | 24, _, h => exact (Option.some.inj h) ▸ az_mb118
  | 25, _, h => exact (Option.some.inj h) ▸ az_mb119
  | 26, _, h => exact (Option.some.inj h) ▸ az_mb120
  | 27, _, h => exact (Option.some.inj h) ▸ az_mb121
  | 28, _, h => exact (Option.some.inj h) ▸ az_mb122
  | 29, _, h => exact (Option.some.inj h) ▸ az_mb123
  | 30, _, h => exact (Option.some.inj h) ▸ az_mb124
  | 31, _, h => exact (Option.some.inj h) ▸ az_mb125
  | 32, _, h => exact (Option.some.inj h) ▸ az_mb126
  | 33, _, h => exact (Option.some.inj h) ▸ az_mb127
  | 34, _, h => exact (Option.some.inj h) ▸ az_mb128
  | 35, _, h => exact (Option.some.inj h) ▸ az_mb129
  | 36, _, h => exact (Option.some.inj h) ▸ az_mb130
  | 37, _, h => exact (Option.some.inj h) ▸ az_mb131
  | 38, _, h => exact (Option.some.inj h) ▸ az_mb132
  | 39, _, h => exact (Option.some.inj h) ▸ az_mb133
  | 40, _, h => exact (Option.some.inj h) ▸ az_mb134
  | 41, _, h => exact (Option.some.inj h) ▸ az_mb135
  | 42, _, h => exact (Option.some.inj h) ▸ az_mb136
  | 43, _, h => exact (Option.some.inj h) ▸ az_mb137
  | 44, _, h => exact (Option.some.inj h) ▸ az_mb138
  | 45, _, h => exact (Option.some.inj h) ▸ az_mb139
  | 46, _, h => exact (Option.some.inj h) ▸ az_mb140
  | j + 47, hy, _ => omega
theorem az_mbs3 : ∀ y M, y < 47 → az_ms (141 + y) = some M → az_mP M := by
  intro y M hy h
  match y, hy, h with
  | 0, _, h => exact (Option.some.inj h) ▸ az_mb141
  | 1, _, h => exact (Option.some.inj h) ▸ az_mb142
  | 2, _, h => exact (Option.some.inj h) ▸ az_mb143
  | 3, _, h => exact (Option.some.inj h) ▸ az_mb144
  | 4, _, h => exact (Option.some.inj h) ▸ az_mb145
  | 5, _, h => exact (Option.some.inj h) ▸ az_mb146
  | 6, _, h => exact (Option.some.inj h) ▸ az_mb147
  | 7, _, h => exact (Option.some.inj h) ▸ az_mb148
  | 8, _, h => exact (Option.some.inj h) ▸ az_mb149
  | 9, _, h => exact (Option.some.inj h) ▸ az_mb150
  | 10, _, h => exact (Option.some.inj h) ▸ az_mb151
  | 11, _, h => exact (Option.some.inj h) ▸ az_mb152
  | 12, _, h => exact (Option.some.inj h) ▸ az_mb153
  | 13, _, h => exact (Option.some.inj h) ▸ az_mb154
  | 14, _, h => exact (Option.some.inj h) ▸ az_mb155
  | 15, _, h => exact (Option.some.inj h) ▸ az_mb156
  | 16, _, h => exact (Option.some.inj h) ▸ az_mb157
  | 17, _, h => exact (Option.some.inj h) ▸ az_mb158
  | 18, _, h => exact (Option.some.inj h) ▸ az_mb159
  | 19, _, h => exact (Option.some.inj h) ▸ az_mb160
  | 20, _, h => exact (Option.some.inj h) ▸ az_mb161
  | 21, _, h => exact (Option.some.inj h) ▸ az_mb162
  | 22, _, h => exact (Option.some.inj h) ▸ az_mb163
  | 23, _, h => exact (Option.some.inj h) ▸ az_mb164
  | 24, _, h => exact (Option.some.inj h) ▸ az_mb165
  | 25, _, h => exact (Option.some.inj h) ▸ az_mb166
  | 26, _, h => exact (Option.some.inj h) ▸ az_mb167
  | 27, _, h => exact (Option.some.inj h) ▸ az_mb168
  | 28, _, h => exact (Option.some.inj h) ▸ az_mb169
  | 29, _, h => exact (Option.some.inj h) ▸ az_mb170
  | 30, _, h => exact (Option.some.inj h) ▸ az_mb171
  | 31, _, h => exact (Option.some.inj h) ▸ az_mb172
  | 32, _, h => exact (Option.some.inj h) ▸ az_mb173
  | 33, _, h => exact (Option.some.inj h) ▸ az_mb174
  | 34, _, h => exact (Option.some.inj h) ▸ az_mb175
  | 35, _, h => exact (Option.some.inj h) ▸ az_mb176
  | 36, _, h => exact (Option.some.inj h) ▸ az_mb177
  | 37, _, h => exact (Option.some.inj h) ▸ az_mb178
  | 38, _, h => exact (Option.some.inj h) ▸ az_mb179
  | 39, _, h => exact (Option.some.inj h) ▸ az_mb180
  | 40, _, h => exact (Option.some.inj h) ▸ az_mb181
  | 41, _, h => exact (Option.some.inj h) ▸ az_mb182
  | 42, _, h => exact (Option.some.inj h) ▸ az_mb183
  | 43, _, h => exact (Option.some.inj h) ▸ az_mb184
  | 44, _, h => exact (Option.some.inj h) ▸ az_mb185
  | 45, _, h => exact (Option.some.inj h) ▸ az_mb186
  | 46, _, h => exact (Option.some.inj h) ▸ az_mb187
  | j + 47, hy, _ => omega
theorem az_mbs4 : ∀ y M, y < 47 → az_ms (188 + y) = some M → az_mP M := by
  intro y M hy h
  match y, hy, h with
  | 0, _, h => exact (Option.some.inj h) ▸ az_mb188
  | 1, _, h => exact (Option.some.inj h) ▸ az_mb189
  | 2, _, h => exact (Option.some.inj h) ▸ az_mb190
  | 3, _, h => exact (Option.some.inj h) ▸ az_mb191
  | 4, _, h => exact (Option.some.inj h) ▸ az_mb192
  | 5, _, h => exact (Option.some.inj h) ▸ az_mb193
  | 6, _, h => exact (Option.some.inj h) ▸ az_mb194
  | 7, _, h => exact (Option.some.inj h) ▸ az_mb195
  | 8, _, h => exact (Option.some.inj h) ▸ az_mb196
  | 9, _, h => exact (Option.some.inj h) ▸ az_mb197
  | 10, _, h => exact (Option.some.inj h) ▸ az_mb198
  | 11, _, h => exact (Option.some.inj h) ▸ az_mb199
  | 12, _, h => exact (Option.some.inj h) ▸ az_mb200
  | 13, _, h => exact (Option.some.inj h) ▸ az_mb201
  | 14, _, h => exact (Option.some.inj h) ▸ az_mb202
  | 15, _, h => exact (Option.some.inj h) ▸ az_mb203
  | 16, _, h => exact (Option.some.inj h) ▸ az_mb204
  | 17, _, h => exact (Option.some.inj h) ▸ az_mb205
  | 18, _, h => exact (Option.some.inj h) ▸ az_mb206
  | 19, _, h => exact (Option.some.inj h) ▸ az_mb207
  | 20, _, h => exact (Option.some.inj h) ▸ az_mb208
  | 21, _, h => exact (Option.some.inj h) ▸ az_mb209
  | 22, _, h => exact (Option.some.inj h) ▸ az_mb210
  | 23, _, h => exact (Option.some.inj h) ▸ az_mb211
  | 24, _, h => exact (Option.some.inj h) ▸ az_mb212
  | 25, _, h => exact (Option.some.inj h) ▸ az_mb213
  | 26, _, h => exact (Option.some.inj h) ▸ az_mb214
  | 27, _, h => exact (Option.some.inj h) ▸ az_mb215
  | 28, _, h => exact (Option.some.inj h) ▸ az_mb216
  | 29, _, h => exact (Option.some.inj h) ▸ az_mb217
  | 30, _, h => exact (Option.some.inj h) ▸ az_mb218
  | 31, _, h => exact (Option.some.inj h) ▸ az_mb219
  | 32, _, h => exact (Option.some.inj h) ▸ az_mb220
  | 33, _, h => exact (Option.some.inj h) ▸ az_mb221
  | 34, _, h => exact (Option.some.inj h) ▸ az_mb222
  | 35, _, h => exact (Option.some.inj h) ▸ az_mb223
  | 36, _, h => exact (Option.some.inj h) ▸ az_mb224
  | 37, _, h => exact (Option.some.inj h) ▸ az_mb225
  | 38, _, h => exact (Option.some.inj h) ▸ az_mb226
  | 39, _, h => exact (Option.some.inj h) ▸ az_mb227
  | 40, _, h => exact (Option.some.inj h) ▸ az_mb228
  | 41, _, h => exact (Option.some.inj h) ▸ az_mb229
  | 42, _, h => exact (Option.some.inj h) ▸ az_mb230
  | 43, _, h => exact (Option.some.inj h) ▸ az_mb231
  | 44, _, h => exact (Option.some.inj h) ▸ az_mb232
  | 45, _, h => exact (Option.some.inj h) ▸ az_mb233
  | 46, _, h => exact (Option.some.inj h) ▸ az_mb234
  | j + 47, hy, _ => omega
theorem az_mbs5 : ∀ y M, y < 47 → az_ms (235 + y) = some M → az_mP M := by
  intro y M hy h
  match y, hy, h with
  | 0, _, h => exact (Option.some.inj h) ▸ az_mb235
  | 1, _, h => exact (Option.some.inj h) ▸ az_mb236
  | 2, _, h => exact (Option.some.inj h) ▸ az_mb237
  | 3, _, h => exact (Option.some.inj h) ▸ az_mb238
  | 4, _, h => exact (Option.some.inj h) ▸ az_mb239
  | 5, _, h => exact (Option.some.inj h) ▸ az_mb240
  | 6, _, h => exact (Option.some.inj h) ▸ az_mb241
  | 7, _, h => exact (Option.some.inj h) ▸ az_mb242
  | 8, _, h => exact (Option.some.inj h) ▸ az_mb243
  | 9, _, h => exact (Option.some.inj h) ▸ az_mb244
  | 10, _, h => exact (Option.some.inj h) ▸ az_mb245
  | 11, _, h => exact (Option.some.inj h) ▸ az_mb246
  | 12, _, h => exact (Option.some.inj h) ▸ az_mb247
  | 13, _, h => exact (Option.some.inj h) ▸ az_mb248
  | 14, _, h => exact (Option.some.inj h) ▸ az_mb249
  | 15, _, h => exact (Option.some.inj h) ▸ az_mb250
  | 16, _, h => exact (Option.some.inj h) ▸ az_mb251
  | 17, _, h => exact (Option.some.inj h) ▸ az_mb252
  | 18, _, h => exact (Option.some.inj h) ▸ az_mb253
  | 19, _, h => exact (Option.some.inj h) ▸ az_mb254
  | 20, _, h => exact (Option.some.inj h) ▸ az_mb255
  | 21, _, h => exact (Option.some.inj h) ▸ az_mb256
  | 22, _, h => exact (Option.some.inj h) ▸ az_mb257
  | 23, _, h => exact (Option.some.inj h) ▸ az_mb258
  | 24, _, h => exact (Option.some.inj h) ▸ az_mb259
  | 25, _, h => exact (Option.some.inj h) ▸ az_mb260
  | 26, _, h => exact (Option.some.inj h) ▸ az_mb261
  | 27, _, h => exact (Option.some.inj h) ▸ az_mb262
  | 28, _, h => exact (Option.some.inj h) ▸ az_mb263
  | 29, _, h => exact (Option.some.inj h) ▸ az_mb264
  | 30, _, h => exact (Option.some.inj h) ▸ az_mb265
  | 31, _, h => exact (Option.some.inj h) ▸ az_mb266
  | 32, _, h => exact (Option.some.inj h) ▸ az_mb267
  | 33, _, h => exact (Option.some.inj h) ▸ az_mb268
  | 34, _, h => exact (Option.some.inj h) ▸ az_mb269
  | 35, _, h => exact (Option.some.inj h) ▸ az_mb270
  | 36, _, h => exact (Option.some.inj h) ▸ az_mb271
  | 37, _, h => exact (Option.some.inj h) ▸ az_mb272
  | 38, _, h => exact (Option.some.inj h) ▸ az_mb273
  | 39, _, h => exact (Option.some.inj h) ▸ az_mb274
  | 40, _, h => exact (Option.some.inj h) ▸ az_mb275
  | 41, _, h => exact (Option.some.inj h) ▸ az_mb276
  | 42, _, h => exact (Option.some.inj h) ▸ az_mb277
  | 43, _, h => exact (Option.some.inj h) ▸ az_mb278
  | 44, _, h => exact (Option.some.inj h) ▸ az_mb279
  | 45, _, h => exact (Option.some.inj h) ▸ az_mb280
  | 46, _, h => exact (Option.some.inj h) ▸ az_mb281
  | j + 47, hy, _ => omega
theorem az_mlen : az_msl.length = 282 := by decide +kernel
theorem az_ms_lt {y : Nat} {M : az_M} (h : az_ms y = some M) : y < 282 := by
  have := (List.getElem?_eq_some_iff.mp h).1
  rw [az_mlen] at this
  exact this
theorem az_mb_all {y : Nat} {M : az_M} (h : az_ms y = some M) : az_mP M := by
  have hl := az_ms_lt h
  by_cases h0 : y < 47
  · exact az_mbs0 (y - 0) M (by omega) (by rw [show 0 + (y - 0) = y by omega]; exact h)
  by_cases h1 : y < 94
  · exact az_mbs1 (y - 47) M (by omega) (by rw [show 47 + (y - 47) = y by omega]; exact h)
  by_cases h2 : y < 141
  · exact az_mbs2 (y - 94) M (by omega) (by rw [show 94 + (y - 94) = y by omega]; exact h)
  by_cases h3 : y < 188
  · exact az_mbs3 (y - 141) M (by omega) (by rw [show 141 + (y - 141) = y by omega]; exact h)
  by_cases h4 : y < 235
  · exact az_mbs4 (y - 188) M (by omega) (by rw [show 188 + (y - 188) = y by omega]; exact h)
  by_cases h5 : y < 282
  · exact az_mbs5 (y - 235) M (by omega) (by rw [show 235 + (y - 235) = y by omega]; exact h)
  omega
theorem az_mok_all : az_mok az_ms ∧ ∀ y M, az_ms y = some M → plainFor M.1 = true := by
  refine ⟨fun y M h => ?_, fun y M h => ?_⟩
  · obtain ⟨h1, c, hc⟩ := az_mb_all h
    simp only [az_mb, Bool.and_eq_true, decide_eq_true_eq] at hc
    obtain ⟨h2, h3, h4, h5, h6⟩ := hc
    exact ⟨h1, az_is_in h2, ⟨h3, h4⟩, h5⟩
  · obtain ⟨h1, c, hc⟩ := az_mb_all h
    simp only [az_mb, Bool.and_eq_true, decide_eq_true_eq] at hc
    exact hc.2.2.2.2
