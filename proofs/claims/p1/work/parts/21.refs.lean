theorem rm_0 : (("EchoFair", 89, "fair 5;fog 2 7 4;echo yodel 3 6 9 5;echo mumble 8 2 4 1;echo bell 5 9 14 8;echo horn 4 5 6 3;valley green 4 1 10 60;valley deep 8 2 8 5;valley old 2 1 15 30;tested green yodel;tested deep mumble;tested old horn;", 0) : String × Nat × String × Nat) ∈ refTx := List.mem_of_getElem? (i := 0) (by decide +kernel)
theorem rf_0 {G : Gam} {A : Nat → Prop} {U : State} {H : Heap} (h : Fx G A U H) : vk_R "EchoFair" 89 "fair 5;fog 2 7 4;echo yodel 3 6 9 5;echo mumble 8 2 4 1;echo bell 5 9 14 8;echo horn 4 5 6 3;valley green 4 1 10 60;valley deep 8 2 8 5;valley old 2 1 15 30;tested green yodel;tested deep mumble;tested old horn;" (G.2.1 0) U := h.2.1 _ rm_0
theorem rm_1 : (("EchoFair", 115, "the input buffer is full", 1) : String × Nat × String × Nat) ∈ refTx := List.mem_of_getElem? (i := 1) (by decide +kernel)
theorem rf_1 {G : Gam} {A : Nat → Prop} {U : State} {H : Heap} (h : Fx G A U H) : vk_R "EchoFair" 115 "the input buffer is full" (G.2.1 1) U := h.2.1 _ rm_1
theorem rm_2 : (("EchoFair", 125, "no such length", 2) : String × Nat × String × Nat) ∈ refTx := List.mem_of_getElem? (i := 2) (by decide +kernel)
theorem rf_2 {G : Gam} {A : Nat → Prop} {U : State} {H : Heap} (h : Fx G A U H) : vk_R "EchoFair" 125 "no such length" (G.2.1 2) U := h.2.1 _ rm_2
theorem rm_3 : (("EchoFair", 131, "the configuration has an error", 3) : String × Nat × String × Nat) ∈ refTx := List.mem_of_getElem? (i := 3) (by decide +kernel)
theorem rf_3 {G : Gam} {A : Nat → Prop} {U : State} {H : Heap} (h : Fx G A U H) : vk_R "EchoFair" 131 "the configuration has an error" (G.2.1 3) U := h.2.1 _ rm_3
theorem rm_4 : (("EchoFair", 139, "the command text has an error", 4) : String × Nat × String × Nat) ∈ refTx := List.mem_of_getElem? (i := 4) (by decide +kernel)
theorem rf_4 {G : Gam} {A : Nat → Prop} {U : State} {H : Heap} (h : Fx G A U H) : vk_R "EchoFair" 139 "the command text has an error" (G.2.1 4) U := h.2.1 _ rm_4
theorem rm_5 : (("EchoFair", 162, "no such day", 5) : String × Nat × String × Nat) ∈ refTx := List.mem_of_getElem? (i := 5) (by decide +kernel)
theorem rf_5 {G : Gam} {A : Nat → Prop} {U : State} {H : Heap} (h : Fx G A U H) : vk_R "EchoFair" 162 "no such day" (G.2.1 5) U := h.2.1 _ rm_5
theorem rm_6 : (("EchoFair", 335, "no such number of days", 6) : String × Nat × String × Nat) ∈ refTx := List.mem_of_getElem? (i := 6) (by decide +kernel)
theorem rf_6 {G : Gam} {A : Nat → Prop} {U : State} {H : Heap} (h : Fx G A U H) : vk_R "EchoFair" 335 "no such number of days" (G.2.1 6) U := h.2.1 _ rm_6
theorem rm_7 : (("EchoFair", 337, "the echo is tested or has a contract", 7) : String × Nat × String × Nat) ∈ refTx := List.mem_of_getElem? (i := 7) (by decide +kernel)
theorem rf_7 {G : Gam} {A : Nat → Prop} {U : State} {H : Heap} (h : Fx G A U H) : vk_R "EchoFair" 337 "the echo is tested or has a contract" (G.2.1 7) U := h.2.1 _ rm_7
theorem rm_8 : (("EchoFair", 342, "the echo has no contract", 8) : String × Nat × String × Nat) ∈ refTx := List.mem_of_getElem? (i := 8) (by decide +kernel)
theorem rf_8 {G : Gam} {A : Nat → Prop} {U : State} {H : Heap} (h : Fx G A U H) : vk_R "EchoFair" 342 "the echo has no contract" (G.2.1 8) U := h.2.1 _ rm_8
theorem rm_9 : (("EchoFair", 347, "no such wage", 9) : String × Nat × String × Nat) ∈ refTx := List.mem_of_getElem? (i := 9) (by decide +kernel)
theorem rf_9 {G : Gam} {A : Nat → Prop} {U : State} {H : Heap} (h : Fx G A U H) : vk_R "EchoFair" 347 "no such wage" (G.2.1 9) U := h.2.1 _ rm_9
theorem rm_10 : (("EchoFair", 349, "no such amount", 10) : String × Nat × String × Nat) ∈ refTx := List.mem_of_getElem? (i := 10) (by decide +kernel)
theorem rf_10 {G : Gam} {A : Nat → Prop} {U : State} {H : Heap} (h : Fx G A U H) : vk_R "EchoFair" 349 "no such amount" (G.2.1 10) U := h.2.1 _ rm_10
theorem rm_11 : (("EchoFair", 357, "the echo cannot be trained", 11) : String × Nat × String × Nat) ∈ refTx := List.mem_of_getElem? (i := 11) (by decide +kernel)
theorem rf_11 {G : Gam} {A : Nat → Prop} {U : State} {H : Heap} (h : Fx G A U H) : vk_R "EchoFair" 357 "the echo cannot be trained" (G.2.1 11) U := h.2.1 _ rm_11
theorem rm_12 : (("EchoFair", 363, "there is no operation to undo", 12) : String × Nat × String × Nat) ∈ refTx := List.mem_of_getElem? (i := 12) (by decide +kernel)
theorem rf_12 {G : Gam} {A : Nat → Prop} {U : State} {H : Heap} (h : Fx G A U H) : vk_R "EchoFair" 363 "there is no operation to undo" (G.2.1 12) U := h.2.1 _ rm_12
theorem rm_13 : (("EchoFair", 372, "there is no saved state", 13) : String × Nat × String × Nat) ∈ refTx := List.mem_of_getElem? (i := 13) (by decide +kernel)
theorem rf_13 {G : Gam} {A : Nat → Prop} {U : State} {H : Heap} (h : Fx G A U H) : vk_R "EchoFair" 372 "there is no saved state" (G.2.1 13) U := h.2.1 _ rm_13
theorem rm_14 : (("EchoFair", 384, "no such echo", 14) : String × Nat × String × Nat) ∈ refTx := List.mem_of_getElem? (i := 14) (by decide +kernel)
theorem rf_14 {G : Gam} {A : Nat → Prop} {U : State} {H : Heap} (h : Fx G A U H) : vk_R "EchoFair" 384 "no such echo" (G.2.1 14) U := h.2.1 _ rm_14
theorem rm_15 : (("EchoFair", 387, "no such valley", 15) : String × Nat × String × Nat) ∈ refTx := List.mem_of_getElem? (i := 15) (by decide +kernel)
theorem rf_15 {G : Gam} {A : Nat → Prop} {U : State} {H : Heap} (h : Fx G A U H) : vk_R "EchoFair" 387 "no such valley" (G.2.1 15) U := h.2.1 _ rm_15
theorem rm_16 : (("EchoFair$Commands", 56, "pass", 16) : String × Nat × String × Nat) ∈ refTx := List.mem_of_getElem? (i := 16) (by decide +kernel)
theorem rf_16 {G : Gam} {A : Nat → Prop} {U : State} {H : Heap} (h : Fx G A U H) : vk_R "EchoFair$Commands" 56 "pass" (G.2.1 16) U := h.2.1 _ rm_16
theorem rm_17 : (("EchoFair$Commands", 62, "fair", 17) : String × Nat × String × Nat) ∈ refTx := List.mem_of_getElem? (i := 17) (by decide +kernel)
theorem rf_17 {G : Gam} {A : Nat → Prop} {U : State} {H : Heap} (h : Fx G A U H) : vk_R "EchoFair$Commands" 62 "fair" (G.2.1 17) U := h.2.1 _ rm_17
theorem rm_18 : (("EchoFair$Commands", 64, "test", 18) : String × Nat × String × Nat) ∈ refTx := List.mem_of_getElem? (i := 18) (by decide +kernel)
theorem rf_18 {G : Gam} {A : Nat → Prop} {U : State} {H : Heap} (h : Fx G A U H) : vk_R "EchoFair$Commands" 64 "test" (G.2.1 18) U := h.2.1 _ rm_18
theorem rm_19 : (("EchoFair$Commands", 66, "dismiss", 19) : String × Nat × String × Nat) ∈ refTx := List.mem_of_getElem? (i := 19) (by decide +kernel)
theorem rf_19 {G : Gam} {A : Nat → Prop} {U : State} {H : Heap} (h : Fx G A U H) : vk_R "EchoFair$Commands" 66 "dismiss" (G.2.1 19) U := h.2.1 _ rm_19
theorem rm_20 : (("EchoFair$Commands", 68, "wage", 20) : String × Nat × String × Nat) ∈ refTx := List.mem_of_getElem? (i := 20) (by decide +kernel)
theorem rf_20 {G : Gam} {A : Nat → Prop} {U : State} {H : Heap} (h : Fx G A U H) : vk_R "EchoFair$Commands" 68 "wage" (G.2.1 20) U := h.2.1 _ rm_20
theorem rm_21 : (("EchoFair$Commands", 70, "fund", 21) : String × Nat × String × Nat) ∈ refTx := List.mem_of_getElem? (i := 21) (by decide +kernel)
theorem rf_21 {G : Gam} {A : Nat → Prop} {U : State} {H : Heap} (h : Fx G A U H) : vk_R "EchoFair$Commands" 70 "fund" (G.2.1 21) U := h.2.1 _ rm_21
theorem rm_22 : (("EchoFair$Commands", 72, "train", 22) : String × Nat × String × Nat) ∈ refTx := List.mem_of_getElem? (i := 22) (by decide +kernel)
theorem rf_22 {G : Gam} {A : Nat → Prop} {U : State} {H : Heap} (h : Fx G A U H) : vk_R "EchoFair$Commands" 72 "train" (G.2.1 22) U := h.2.1 _ rm_22
theorem rm_23 : (("EchoFair$Configuration", 63, "fair", 17) : String × Nat × String × Nat) ∈ refTx := List.mem_of_getElem? (i := 23) (by decide +kernel)
theorem rf_23 {G : Gam} {A : Nat → Prop} {U : State} {H : Heap} (h : Fx G A U H) : vk_R "EchoFair$Configuration" 63 "fair" (G.2.1 17) U := h.2.1 _ rm_23
theorem rm_24 : (("EchoFair$Configuration", 87, "fog", 23) : String × Nat × String × Nat) ∈ refTx := List.mem_of_getElem? (i := 24) (by decide +kernel)
theorem rf_24 {G : Gam} {A : Nat → Prop} {U : State} {H : Heap} (h : Fx G A U H) : vk_R "EchoFair$Configuration" 87 "fog" (G.2.1 23) U := h.2.1 _ rm_24
theorem rm_25 : (("EchoFair$Configuration", 96, "echo", 24) : String × Nat × String × Nat) ∈ refTx := List.mem_of_getElem? (i := 25) (by decide +kernel)
theorem rf_25 {G : Gam} {A : Nat → Prop} {U : State} {H : Heap} (h : Fx G A U H) : vk_R "EchoFair$Configuration" 96 "echo" (G.2.1 24) U := h.2.1 _ rm_25
theorem rm_26 : (("EchoFair$Configuration", 104, "valley", 25) : String × Nat × String × Nat) ∈ refTx := List.mem_of_getElem? (i := 26) (by decide +kernel)
theorem rf_26 {G : Gam} {A : Nat → Prop} {U : State} {H : Heap} (h : Fx G A U H) : vk_R "EchoFair$Configuration" 104 "valley" (G.2.1 25) U := h.2.1 _ rm_26
theorem rm_27 : (("EchoFair$Configuration", 109, "tested", 26) : String × Nat × String × Nat) ∈ refTx := List.mem_of_getElem? (i := 27) (by decide +kernel)
theorem rf_27 {G : Gam} {A : Nat → Prop} {U : State} {H : Heap} (h : Fx G A U H) : vk_R "EchoFair$Configuration" 109 "tested" (G.2.1 26) U := h.2.1 _ rm_27
theorem rm_28 : (("EchoFairModel", 51, "fair 5;fog 2 7 4;echo yodel 3 6 9 5;echo mumble 8 2 4 1;echo bell 5 9 14 8;echo horn 4 5 6 3;valley green 4 1 10 60;valley deep 8 2 8 5;valley old 2 1 15 30;tested green yodel;tested deep mumble;tested old horn;", 0) : String × Nat × String × Nat) ∈ refTx := List.mem_of_getElem? (i := 28) (by decide +kernel)
theorem rf_28 {G : Gam} {A : Nat → Prop} {U : State} {H : Heap} (h : Fx G A U H) : vk_R "EchoFairModel" 51 "fair 5;fog 2 7 4;echo yodel 3 6 9 5;echo mumble 8 2 4 1;echo bell 5 9 14 8;echo horn 4 5 6 3;valley green 4 1 10 60;valley deep 8 2 8 5;valley old 2 1 15 30;tested green yodel;tested deep mumble;tested old horn;" (G.2.1 0) U := h.2.1 _ rm_28
theorem rm_29 : (("EchoFairModel", 277, "fog", 23) : String × Nat × String × Nat) ∈ refTx := List.mem_of_getElem? (i := 29) (by decide +kernel)
theorem rf_29 {G : Gam} {A : Nat → Prop} {U : State} {H : Heap} (h : Fx G A U H) : vk_R "EchoFairModel" 277 "fog" (G.2.1 23) U := h.2.1 _ rm_29
theorem rm_30 : (("EchoFairModel", 299, "echo", 24) : String × Nat × String × Nat) ∈ refTx := List.mem_of_getElem? (i := 30) (by decide +kernel)
theorem rf_30 {G : Gam} {A : Nat → Prop} {U : State} {H : Heap} (h : Fx G A U H) : vk_R "EchoFairModel" 299 "echo" (G.2.1 24) U := h.2.1 _ rm_30
theorem rm_31 : (("EchoFairModel", 304, "valley", 25) : String × Nat × String × Nat) ∈ refTx := List.mem_of_getElem? (i := 31) (by decide +kernel)
theorem rf_31 {G : Gam} {A : Nat → Prop} {U : State} {H : Heap} (h : Fx G A U H) : vk_R "EchoFairModel" 304 "valley" (G.2.1 25) U := h.2.1 _ rm_31
theorem rm_32 : (("EchoFairModel", 309, "tested", 26) : String × Nat × String × Nat) ∈ refTx := List.mem_of_getElem? (i := 32) (by decide +kernel)
theorem rf_32 {G : Gam} {A : Nat → Prop} {U : State} {H : Heap} (h : Fx G A U H) : vk_R "EchoFairModel" 309 "tested" (G.2.1 26) U := h.2.1 _ rm_32
theorem rm_33 : (("EchoFairModel", 317, "fair", 17) : String × Nat × String × Nat) ∈ refTx := List.mem_of_getElem? (i := 33) (by decide +kernel)
theorem rf_33 {G : Gam} {A : Nat → Prop} {U : State} {H : Heap} (h : Fx G A U H) : vk_R "EchoFairModel" 317 "fair" (G.2.1 17) U := h.2.1 _ rm_33
theorem rm_34 : (("EchoFairModel", 331, "dismiss", 19) : String × Nat × String × Nat) ∈ refTx := List.mem_of_getElem? (i := 34) (by decide +kernel)
theorem rf_34 {G : Gam} {A : Nat → Prop} {U : State} {H : Heap} (h : Fx G A U H) : vk_R "EchoFairModel" 331 "dismiss" (G.2.1 19) U := h.2.1 _ rm_34
theorem rm_35 : (("EchoFairModel", 333, "wage", 20) : String × Nat × String × Nat) ∈ refTx := List.mem_of_getElem? (i := 35) (by decide +kernel)
theorem rf_35 {G : Gam} {A : Nat → Prop} {U : State} {H : Heap} (h : Fx G A U H) : vk_R "EchoFairModel" 333 "wage" (G.2.1 20) U := h.2.1 _ rm_35
theorem rm_36 : (("EchoFairModel", 335, "fund", 21) : String × Nat × String × Nat) ∈ refTx := List.mem_of_getElem? (i := 36) (by decide +kernel)
theorem rf_36 {G : Gam} {A : Nat → Prop} {U : State} {H : Heap} (h : Fx G A U H) : vk_R "EchoFairModel" 335 "fund" (G.2.1 21) U := h.2.1 _ rm_36
theorem rm_37 : (("EchoFairModel", 337, "train", 22) : String × Nat × String × Nat) ∈ refTx := List.mem_of_getElem? (i := 37) (by decide +kernel)
theorem rf_37 {G : Gam} {A : Nat → Prop} {U : State} {H : Heap} (h : Fx G A U H) : vk_R "EchoFairModel" 337 "train" (G.2.1 22) U := h.2.1 _ rm_37
theorem rm_38 : (("EchoFairModel", 339, "pass", 16) : String × Nat × String × Nat) ∈ refTx := List.mem_of_getElem? (i := 38) (by decide +kernel)
theorem rf_38 {G : Gam} {A : Nat → Prop} {U : State} {H : Heap} (h : Fx G A U H) : vk_R "EchoFairModel" 339 "pass" (G.2.1 16) U := h.2.1 _ rm_38
theorem rm_39 : (("EchoFairModel", 341, "test", 18) : String × Nat × String × Nat) ∈ refTx := List.mem_of_getElem? (i := 39) (by decide +kernel)
theorem rf_39 {G : Gam} {A : Nat → Prop} {U : State} {H : Heap} (h : Fx G A U H) : vk_R "EchoFairModel" 341 "test" (G.2.1 18) U := h.2.1 _ rm_39
