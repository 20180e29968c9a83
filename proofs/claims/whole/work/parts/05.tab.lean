theorem wR1 : ∀ w ∈ wsL_law_r1, w ∈ wsL_law := fun _ h => (List.mem_append_left _ (List.mem_append_left _ (List.mem_append_left _ (List.mem_append_left _ (List.mem_append_left _ (List.mem_append_left _ (List.mem_append_left _ (List.mem_append_left _ (List.mem_append_left _ (List.mem_append_left _ h))))))))))
theorem wR2 : ∀ w ∈ wsL_law_r2, w ∈ wsL_law := fun _ h => (List.mem_append_left _ (List.mem_append_left _ (List.mem_append_left _ (List.mem_append_left _ (List.mem_append_left _ (List.mem_append_left _ (List.mem_append_left _ (List.mem_append_left _ (List.mem_append_left _ (List.mem_append_right _ (List.mem_append_left _ h)))))))))))
theorem wR3 : ∀ w ∈ wsL_law_r3, w ∈ wsL_law := fun _ h => (List.mem_append_left _ (List.mem_append_left _ (List.mem_append_left _ (List.mem_append_left _ (List.mem_append_left _ (List.mem_append_left _ (List.mem_append_left _ (List.mem_append_left _ (List.mem_append_left _ (List.mem_append_right _ (List.mem_append_right _ (List.mem_append_left _ h))))))))))))
theorem wR4 : ∀ w ∈ wsL_law_r4, w ∈ wsL_law := fun _ h => (List.mem_append_left _ (List.mem_append_left _ (List.mem_append_left _ (List.mem_append_left _ (List.mem_append_left _ (List.mem_append_left _ (List.mem_append_left _ (List.mem_append_left _ (List.mem_append_left _ (List.mem_append_right _ (List.mem_append_right _ (List.mem_append_right _ (List.mem_append_left _ h)))))))))))))
theorem wR5 : ∀ w ∈ wsL_law_r5, w ∈ wsL_law := fun _ h => (List.mem_append_left _ (List.mem_append_left _ (List.mem_append_left _ (List.mem_append_left _ (List.mem_append_left _ (List.mem_append_left _ (List.mem_append_left _ (List.mem_append_left _ (List.mem_append_left _ (List.mem_append_right _ (List.mem_append_right _ (List.mem_append_right _ (List.mem_append_right _ (List.mem_append_left _ h))))))))))))))
theorem wR6 : ∀ w ∈ wsL_law_r6, w ∈ wsL_law := fun _ h => (List.mem_append_left _ (List.mem_append_left _ (List.mem_append_left _ (List.mem_append_left _ (List.mem_append_left _ (List.mem_append_left _ (List.mem_append_left _ (List.mem_append_left _ (List.mem_append_left _ (List.mem_append_right _ (List.mem_append_right _ (List.mem_append_right _ (List.mem_append_right _ (List.mem_append_right _ (List.mem_append_left _ h)))))))))))))))
theorem wR7 : ∀ w ∈ wsL_law_r7, w ∈ wsL_law := fun _ h => (List.mem_append_left _ (List.mem_append_left _ (List.mem_append_left _ (List.mem_append_left _ (List.mem_append_left _ (List.mem_append_left _ (List.mem_append_left _ (List.mem_append_left _ (List.mem_append_left _ (List.mem_append_right _ (List.mem_append_right _ (List.mem_append_right _ (List.mem_append_right _ (List.mem_append_right _ (List.mem_append_right _ (List.mem_append_left _ h))))))))))))))))
theorem wR8 : ∀ w ∈ wsL_law_r8, w ∈ wsL_law := fun _ h => (List.mem_append_left _ (List.mem_append_left _ (List.mem_append_left _ (List.mem_append_left _ (List.mem_append_left _ (List.mem_append_left _ (List.mem_append_left _ (List.mem_append_left _ (List.mem_append_left _ (List.mem_append_right _ (List.mem_append_right _ (List.mem_append_right _ (List.mem_append_right _ (List.mem_append_right _ (List.mem_append_right _ (List.mem_append_right _ (List.mem_append_left _ h)))))))))))))))))
theorem wR9 : ∀ w ∈ wsL_law_r9, w ∈ wsL_law := fun _ h => (List.mem_append_left _ (List.mem_append_left _ (List.mem_append_left _ (List.mem_append_left _ (List.mem_append_left _ (List.mem_append_left _ (List.mem_append_left _ (List.mem_append_left _ (List.mem_append_left _ (List.mem_append_right _ (List.mem_append_right _ (List.mem_append_right _ (List.mem_append_right _ (List.mem_append_right _ (List.mem_append_right _ (List.mem_append_right _ (List.mem_append_right _ (List.mem_append_left _ h))))))))))))))))))
theorem wR10 : ∀ w ∈ wsL_law_r10, w ∈ wsL_law := fun _ h => (List.mem_append_left _ (List.mem_append_left _ (List.mem_append_left _ (List.mem_append_left _ (List.mem_append_left _ (List.mem_append_left _ (List.mem_append_left _ (List.mem_append_left _ (List.mem_append_left _ (List.mem_append_right _ (List.mem_append_right _ (List.mem_append_right _ (List.mem_append_right _ (List.mem_append_right _ (List.mem_append_right _ (List.mem_append_right _ (List.mem_append_right _ (List.mem_append_right _ (List.mem_append_left _ h)))))))))))))))))))
theorem wR11 : ∀ w ∈ wsL_law_r11, w ∈ wsL_law := fun _ h => (List.mem_append_left _ (List.mem_append_left _ (List.mem_append_left _ (List.mem_append_left _ (List.mem_append_left _ (List.mem_append_left _ (List.mem_append_left _ (List.mem_append_left _ (List.mem_append_left _ (List.mem_append_right _ (List.mem_append_right _ (List.mem_append_right _ (List.mem_append_right _ (List.mem_append_right _ (List.mem_append_right _ (List.mem_append_right _ (List.mem_append_right _ (List.mem_append_right _ (List.mem_append_right _ (List.mem_append_left _ h))))))))))))))))))))
theorem wR12 : ∀ w ∈ wsL_law_r12, w ∈ wsL_law := fun _ h => (List.mem_append_left _ (List.mem_append_left _ (List.mem_append_left _ (List.mem_append_left _ (List.mem_append_left _ (List.mem_append_left _ (List.mem_append_left _ (List.mem_append_left _ (List.mem_append_left _ (List.mem_append_right _ (List.mem_append_right _ (List.mem_append_right _ (List.mem_append_right _ (List.mem_append_right _ (List.mem_append_right _ (List.mem_append_right _ (List.mem_append_right _ (List.mem_append_right _ (List.mem_append_right _ (List.mem_append_right _ (List.mem_append_left _ h)))))))))))))))))))))
theorem wR13 : ∀ w ∈ wsL_law_r13, w ∈ wsL_law := fun _ h => (List.mem_append_left _ (List.mem_append_left _ (List.mem_append_left _ (List.mem_append_left _ (List.mem_append_left _ (List.mem_append_left _ (List.mem_append_left _ (List.mem_append_left _ (List.mem_append_left _ (List.mem_append_right _ (List.mem_append_right _ (List.mem_append_right _ (List.mem_append_right _ (List.mem_append_right _ (List.mem_append_right _ (List.mem_append_right _ (List.mem_append_right _ (List.mem_append_right _ (List.mem_append_right _ (List.mem_append_right _ (List.mem_append_right _ (List.mem_append_left _ h))))))))))))))))))))))
theorem wR14 : ∀ w ∈ wsL_law_r14, w ∈ wsL_law := fun _ h => (List.mem_append_left _ (List.mem_append_left _ (List.mem_append_left _ (List.mem_append_left _ (List.mem_append_left _ (List.mem_append_left _ (List.mem_append_left _ (List.mem_append_left _ (List.mem_append_left _ (List.mem_append_right _ (List.mem_append_right _ (List.mem_append_right _ (List.mem_append_right _ (List.mem_append_right _ (List.mem_append_right _ (List.mem_append_right _ (List.mem_append_right _ (List.mem_append_right _ (List.mem_append_right _ (List.mem_append_right _ (List.mem_append_right _ (List.mem_append_right _ (List.mem_append_left _ h)))))))))))))))))))))))
theorem wR15 : ∀ w ∈ wsL_law_r15, w ∈ wsL_law := fun _ h => (List.mem_append_left _ (List.mem_append_left _ (List.mem_append_left _ (List.mem_append_left _ (List.mem_append_left _ (List.mem_append_left _ (List.mem_append_left _ (List.mem_append_left _ (List.mem_append_left _ (List.mem_append_right _ (List.mem_append_right _ (List.mem_append_right _ (List.mem_append_right _ (List.mem_append_right _ (List.mem_append_right _ (List.mem_append_right _ (List.mem_append_right _ (List.mem_append_right _ (List.mem_append_right _ (List.mem_append_right _ (List.mem_append_right _ (List.mem_append_right _ (List.mem_append_right _ (List.mem_append_left _ h))))))))))))))))))))))))
theorem wR16 : ∀ w ∈ wsL_law_r16, w ∈ wsL_law := fun _ h => (List.mem_append_left _ (List.mem_append_left _ (List.mem_append_left _ (List.mem_append_left _ (List.mem_append_left _ (List.mem_append_left _ (List.mem_append_left _ (List.mem_append_left _ (List.mem_append_left _ (List.mem_append_right _ (List.mem_append_right _ (List.mem_append_right _ (List.mem_append_right _ (List.mem_append_right _ (List.mem_append_right _ (List.mem_append_right _ (List.mem_append_right _ (List.mem_append_right _ (List.mem_append_right _ (List.mem_append_right _ (List.mem_append_right _ (List.mem_append_right _ (List.mem_append_right _ (List.mem_append_right _ (List.mem_append_left _ h)))))))))))))))))))))))))
theorem wR17 : ∀ w ∈ wsL_law_r17, w ∈ wsL_law := fun _ h => (List.mem_append_left _ (List.mem_append_left _ (List.mem_append_left _ (List.mem_append_left _ (List.mem_append_left _ (List.mem_append_left _ (List.mem_append_left _ (List.mem_append_left _ (List.mem_append_left _ (List.mem_append_right _ (List.mem_append_right _ (List.mem_append_right _ (List.mem_append_right _ (List.mem_append_right _ (List.mem_append_right _ (List.mem_append_right _ (List.mem_append_right _ (List.mem_append_right _ (List.mem_append_right _ (List.mem_append_right _ (List.mem_append_right _ (List.mem_append_right _ (List.mem_append_right _ (List.mem_append_right _ (List.mem_append_right _ (List.mem_append_left _ h))))))))))))))))))))))))))
theorem wR18 : ∀ w ∈ wsL_law_r18, w ∈ wsL_law := fun _ h => (List.mem_append_left _ (List.mem_append_left _ (List.mem_append_left _ (List.mem_append_left _ (List.mem_append_left _ (List.mem_append_left _ (List.mem_append_left _ (List.mem_append_left _ (List.mem_append_left _ (List.mem_append_right _ (List.mem_append_right _ (List.mem_append_right _ (List.mem_append_right _ (List.mem_append_right _ (List.mem_append_right _ (List.mem_append_right _ (List.mem_append_right _ (List.mem_append_right _ (List.mem_append_right _ (List.mem_append_right _ (List.mem_append_right _ (List.mem_append_right _ (List.mem_append_right _ (List.mem_append_right _ (List.mem_append_right _ (List.mem_append_right _ (List.mem_append_left _ h)))))))))))))))))))))))))))
theorem wR19 : ∀ w ∈ wsL_law_r19, w ∈ wsL_law := fun _ h => (List.mem_append_left _ (List.mem_append_left _ (List.mem_append_left _ (List.mem_append_left _ (List.mem_append_left _ (List.mem_append_left _ (List.mem_append_left _ (List.mem_append_left _ (List.mem_append_left _ (List.mem_append_right _ (List.mem_append_right _ (List.mem_append_right _ (List.mem_append_right _ (List.mem_append_right _ (List.mem_append_right _ (List.mem_append_right _ (List.mem_append_right _ (List.mem_append_right _ (List.mem_append_right _ (List.mem_append_right _ (List.mem_append_right _ (List.mem_append_right _ (List.mem_append_right _ (List.mem_append_right _ (List.mem_append_right _ (List.mem_append_right _ (List.mem_append_right _ (List.mem_append_left _ h))))))))))))))))))))))))))))
theorem wR20 : ∀ w ∈ wsL_law_r20, w ∈ wsL_law := fun _ h => (List.mem_append_left _ (List.mem_append_left _ (List.mem_append_left _ (List.mem_append_left _ (List.mem_append_left _ (List.mem_append_left _ (List.mem_append_left _ (List.mem_append_left _ (List.mem_append_left _ (List.mem_append_right _ (List.mem_append_right _ (List.mem_append_right _ (List.mem_append_right _ (List.mem_append_right _ (List.mem_append_right _ (List.mem_append_right _ (List.mem_append_right _ (List.mem_append_right _ (List.mem_append_right _ (List.mem_append_right _ (List.mem_append_right _ (List.mem_append_right _ (List.mem_append_right _ (List.mem_append_right _ (List.mem_append_right _ (List.mem_append_right _ (List.mem_append_right _ (List.mem_append_right _ (List.mem_append_left _ h)))))))))))))))))))))))))))))
theorem wR21 : ∀ w ∈ wsL_law_r21, w ∈ wsL_law := fun _ h => (List.mem_append_left _ (List.mem_append_left _ (List.mem_append_left _ (List.mem_append_left _ (List.mem_append_left _ (List.mem_append_left _ (List.mem_append_left _ (List.mem_append_left _ (List.mem_append_left _ (List.mem_append_right _ (List.mem_append_right _ (List.mem_append_right _ (List.mem_append_right _ (List.mem_append_right _ (List.mem_append_right _ (List.mem_append_right _ (List.mem_append_right _ (List.mem_append_right _ (List.mem_append_right _ (List.mem_append_right _ (List.mem_append_right _ (List.mem_append_right _ (List.mem_append_right _ (List.mem_append_right _ (List.mem_append_right _ (List.mem_append_right _ (List.mem_append_right _ (List.mem_append_right _ (List.mem_append_right _ (List.mem_append_left _ h))))))))))))))))))))))))))))))
theorem wR22 : ∀ w ∈ wsL_law_r22, w ∈ wsL_law := fun _ h => (List.mem_append_left _ (List.mem_append_left _ (List.mem_append_left _ (List.mem_append_left _ (List.mem_append_left _ (List.mem_append_left _ (List.mem_append_left _ (List.mem_append_left _ (List.mem_append_left _ (List.mem_append_right _ (List.mem_append_right _ (List.mem_append_right _ (List.mem_append_right _ (List.mem_append_right _ (List.mem_append_right _ (List.mem_append_right _ (List.mem_append_right _ (List.mem_append_right _ (List.mem_append_right _ (List.mem_append_right _ (List.mem_append_right _ (List.mem_append_right _ (List.mem_append_right _ (List.mem_append_right _ (List.mem_append_right _ (List.mem_append_right _ (List.mem_append_right _ (List.mem_append_right _ (List.mem_append_right _ (List.mem_append_right _ (List.mem_append_left _ h)))))))))))))))))))))))))))))))
theorem wR23 : ∀ w ∈ wsL_law_r23, w ∈ wsL_law := fun _ h => (List.mem_append_left _ (List.mem_append_left _ (List.mem_append_left _ (List.mem_append_left _ (List.mem_append_left _ (List.mem_append_left _ (List.mem_append_left _ (List.mem_append_left _ (List.mem_append_left _ (List.mem_append_right _ (List.mem_append_right _ (List.mem_append_right _ (List.mem_append_right _ (List.mem_append_right _ (List.mem_append_right _ (List.mem_append_right _ (List.mem_append_right _ (List.mem_append_right _ (List.mem_append_right _ (List.mem_append_right _ (List.mem_append_right _ (List.mem_append_right _ (List.mem_append_right _ (List.mem_append_right _ (List.mem_append_right _ (List.mem_append_right _ (List.mem_append_right _ (List.mem_append_right _ (List.mem_append_right _ (List.mem_append_right _ (List.mem_append_right _ (List.mem_append_left _ h))))))))))))))))))))))))))))))))
theorem wR24 : ∀ w ∈ wsL_law_r24, w ∈ wsL_law := fun _ h => (List.mem_append_left _ (List.mem_append_left _ (List.mem_append_left _ (List.mem_append_left _ (List.mem_append_left _ (List.mem_append_left _ (List.mem_append_left _ (List.mem_append_left _ (List.mem_append_left _ (List.mem_append_right _ (List.mem_append_right _ (List.mem_append_right _ (List.mem_append_right _ (List.mem_append_right _ (List.mem_append_right _ (List.mem_append_right _ (List.mem_append_right _ (List.mem_append_right _ (List.mem_append_right _ (List.mem_append_right _ (List.mem_append_right _ (List.mem_append_right _ (List.mem_append_right _ (List.mem_append_right _ (List.mem_append_right _ (List.mem_append_right _ (List.mem_append_right _ (List.mem_append_right _ (List.mem_append_right _ (List.mem_append_right _ (List.mem_append_right _ (List.mem_append_right _ (List.mem_append_left _ h)))))))))))))))))))))))))))))))))
theorem wR25 : ∀ w ∈ wsL_law_r25, w ∈ wsL_law := fun _ h => (List.mem_append_left _ (List.mem_append_left _ (List.mem_append_left _ (List.mem_append_left _ (List.mem_append_left _ (List.mem_append_left _ (List.mem_append_left _ (List.mem_append_left _ (List.mem_append_left _ (List.mem_append_right _ (List.mem_append_right _ (List.mem_append_right _ (List.mem_append_right _ (List.mem_append_right _ (List.mem_append_right _ (List.mem_append_right _ (List.mem_append_right _ (List.mem_append_right _ (List.mem_append_right _ (List.mem_append_right _ (List.mem_append_right _ (List.mem_append_right _ (List.mem_append_right _ (List.mem_append_right _ (List.mem_append_right _ (List.mem_append_right _ (List.mem_append_right _ (List.mem_append_right _ (List.mem_append_right _ (List.mem_append_right _ (List.mem_append_right _ (List.mem_append_right _ (List.mem_append_right _ (List.mem_append_left _ h))))))))))))))))))))))))))))))))))
theorem wR26 : ∀ w ∈ wsL_law_r26, w ∈ wsL_law := fun _ h => (List.mem_append_left _ (List.mem_append_left _ (List.mem_append_left _ (List.mem_append_left _ (List.mem_append_left _ (List.mem_append_left _ (List.mem_append_left _ (List.mem_append_left _ (List.mem_append_left _ (List.mem_append_right _ (List.mem_append_right _ (List.mem_append_right _ (List.mem_append_right _ (List.mem_append_right _ (List.mem_append_right _ (List.mem_append_right _ (List.mem_append_right _ (List.mem_append_right _ (List.mem_append_right _ (List.mem_append_right _ (List.mem_append_right _ (List.mem_append_right _ (List.mem_append_right _ (List.mem_append_right _ (List.mem_append_right _ (List.mem_append_right _ (List.mem_append_right _ (List.mem_append_right _ (List.mem_append_right _ (List.mem_append_right _ (List.mem_append_right _ (List.mem_append_right _ (List.mem_append_right _ (List.mem_append_right _ (List.mem_append_left _ h)))))))))))))))))))))))))))))))))))
theorem wR27 : ∀ w ∈ wsL_law_r27, w ∈ wsL_law := fun _ h => (List.mem_append_left _ (List.mem_append_left _ (List.mem_append_left _ (List.mem_append_left _ (List.mem_append_left _ (List.mem_append_left _ (List.mem_append_left _ (List.mem_append_left _ (List.mem_append_left _ (List.mem_append_right _ (List.mem_append_right _ (List.mem_append_right _ (List.mem_append_right _ (List.mem_append_right _ (List.mem_append_right _ (List.mem_append_right _ (List.mem_append_right _ (List.mem_append_right _ (List.mem_append_right _ (List.mem_append_right _ (List.mem_append_right _ (List.mem_append_right _ (List.mem_append_right _ (List.mem_append_right _ (List.mem_append_right _ (List.mem_append_right _ (List.mem_append_right _ (List.mem_append_right _ (List.mem_append_right _ (List.mem_append_right _ (List.mem_append_right _ (List.mem_append_right _ (List.mem_append_right _ (List.mem_append_right _ (List.mem_append_right _ (List.mem_append_left _ h))))))))))))))))))))))))))))))))))))
theorem wR28 : ∀ w ∈ wsL_law_r28, w ∈ wsL_law := fun _ h => (List.mem_append_left _ (List.mem_append_left _ (List.mem_append_left _ (List.mem_append_left _ (List.mem_append_left _ (List.mem_append_left _ (List.mem_append_left _ (List.mem_append_left _ (List.mem_append_left _ (List.mem_append_right _ (List.mem_append_right _ (List.mem_append_right _ (List.mem_append_right _ (List.mem_append_right _ (List.mem_append_right _ (List.mem_append_right _ (List.mem_append_right _ (List.mem_append_right _ (List.mem_append_right _ (List.mem_append_right _ (List.mem_append_right _ (List.mem_append_right _ (List.mem_append_right _ (List.mem_append_right _ (List.mem_append_right _ (List.mem_append_right _ (List.mem_append_right _ (List.mem_append_right _ (List.mem_append_right _ (List.mem_append_right _ (List.mem_append_right _ (List.mem_append_right _ (List.mem_append_right _ (List.mem_append_right _ (List.mem_append_right _ (List.mem_append_right _ (List.mem_append_left _ h)))))))))))))))))))))))))))))))))))))
theorem wR29 : ∀ w ∈ wsL_law_r29, w ∈ wsL_law := fun _ h => (List.mem_append_left _ (List.mem_append_left _ (List.mem_append_left _ (List.mem_append_left _ (List.mem_append_left _ (List.mem_append_left _ (List.mem_append_left _ (List.mem_append_left _ (List.mem_append_left _ (List.mem_append_right _ (List.mem_append_right _ (List.mem_append_right _ (List.mem_append_right _ (List.mem_append_right _ (List.mem_append_right _ (List.mem_append_right _ (List.mem_append_right _ (List.mem_append_right _ (List.mem_append_right _ (List.mem_append_right _ (List.mem_append_right _ (List.mem_append_right _ (List.mem_append_right _ (List.mem_append_right _ (List.mem_append_right _ (List.mem_append_right _ (List.mem_append_right _ (List.mem_append_right _ (List.mem_append_right _ (List.mem_append_right _ (List.mem_append_right _ (List.mem_append_right _ (List.mem_append_right _ (List.mem_append_right _ (List.mem_append_right _ (List.mem_append_right _ (List.mem_append_right _ (List.mem_append_left _ h))))))))))))))))))))))))))))))))))))))
theorem wR30 : ∀ w ∈ wsL_law_r30, w ∈ wsL_law := fun _ h => (List.mem_append_left _ (List.mem_append_left _ (List.mem_append_left _ (List.mem_append_left _ (List.mem_append_left _ (List.mem_append_left _ (List.mem_append_left _ (List.mem_append_left _ (List.mem_append_left _ (List.mem_append_right _ (List.mem_append_right _ (List.mem_append_right _ (List.mem_append_right _ (List.mem_append_right _ (List.mem_append_right _ (List.mem_append_right _ (List.mem_append_right _ (List.mem_append_right _ (List.mem_append_right _ (List.mem_append_right _ (List.mem_append_right _ (List.mem_append_right _ (List.mem_append_right _ (List.mem_append_right _ (List.mem_append_right _ (List.mem_append_right _ (List.mem_append_right _ (List.mem_append_right _ (List.mem_append_right _ (List.mem_append_right _ (List.mem_append_right _ (List.mem_append_right _ (List.mem_append_right _ (List.mem_append_right _ (List.mem_append_right _ (List.mem_append_right _ (List.mem_append_right _ (List.mem_append_right _ (List.mem_append_left _ h)))))))))))))))))))))))))))))))))))))))
theorem wR31 : ∀ w ∈ wsL_law_r31, w ∈ wsL_law := fun _ h => (List.mem_append_left _ (List.mem_append_left _ (List.mem_append_left _ (List.mem_append_left _ (List.mem_append_left _ (List.mem_append_left _ (List.mem_append_left _ (List.mem_append_left _ (List.mem_append_left _ (List.mem_append_right _ (List.mem_append_right _ (List.mem_append_right _ (List.mem_append_right _ (List.mem_append_right _ (List.mem_append_right _ (List.mem_append_right _ (List.mem_append_right _ (List.mem_append_right _ (List.mem_append_right _ (List.mem_append_right _ (List.mem_append_right _ (List.mem_append_right _ (List.mem_append_right _ (List.mem_append_right _ (List.mem_append_right _ (List.mem_append_right _ (List.mem_append_right _ (List.mem_append_right _ (List.mem_append_right _ (List.mem_append_right _ (List.mem_append_right _ (List.mem_append_right _ (List.mem_append_right _ (List.mem_append_right _ (List.mem_append_right _ (List.mem_append_right _ (List.mem_append_right _ (List.mem_append_right _ (List.mem_append_right _ h)))))))))))))))))))))))))))))))))))))))
def mX0_init : MD := (yX0_init, cX0_init, 1, none, 1, 20)
def mX0_beginAsTold : MD := (yX0_beginAsTold, cX0_beginAsTold, 3, none, 1, 22)
def mX0_copy : MD := (yX0_copy, cX0_copy, 2, none, 2, 61)
def mX0_groundOf : MD := (yX0_groundOf, cX0_groundOf, 2, (some .int), 1, 21)
def mX0_laidBy : MD := (yX0_laidBy, cX0_laidBy, 4, (some .int), 1, 21)
def mX0_passedByAll : MD := (yX0_passedByAll, cX0_passedByAll, 3, (some .int), 1, 21)
def mX0_stepOn : MD := (yX0_stepOn, cX0_stepOn, 3, none, 1, 22)
def mX0_lay : MD := (yX0_lay, cX0_lay, 4, none, 1, 22)
def mX1_init : MD := (yX1_init, cX1_init, 1, none, 2, 40)
def mX1_bestToLay : MD := (yX1_bestToLay, cX1_bestToLay, 10, (some .int), 2, 53)
def mX1_leastJoining : MD := (yX1_leastJoining, cX1_leastJoining, 8, (some .int), 3, 75)
def mX1_joinsAll : MD := (yX1_joinsAll, cX1_joinsAll, 4, (some .boolean), 2, 52)
def mX1_laidByTurns : MD := (yX1_laidByTurns, cX1_laidByTurns, 9, (some .int), 3, 75)
def mX1_bestOfNext : MD := (yX1_bestOfNext, cX1_bestOfNext, 7, (some .int), 1, 21)
def mX1_fewestApart : MD := (yX1_fewestApart, cX1_fewestApart, 9, (some .int), 3, 75)
def mX2_init : MD := (yX2_init, cX2_init, 1, none, 2, 40)
def mX2_readInto : MD := (yX2_readInto, cX2_readInto, 3, (some .int), 7, 150)
def mX2_readItem : MD := (yX2_readItem, cX2_readItem, 3, (some .boolean), 6, 128)
def mX2_readRow : MD := (yX2_readRow, cX2_readRow, 3, (some .boolean), 3, 66)
def mX2_readWalker : MD := (yX2_readWalker, cX2_readWalker, 3, (some .boolean), 3, 66)
def mX2_readSink : MD := (yX2_readSink, cX2_readSink, 2, (some .boolean), 3, 66)
def mX2_isNumberTo : MD := (yX2_isNumberTo, cX2_isNumberTo, 2, (some .boolean), 0, 0)
def mX2_isWord : MD := (yX2_isWord, cX2_isWord, 3, (some .boolean), 5, 106)
def mX2_toNextToken : MD := (yX2_toNextToken, cX2_toNextToken, 2, none, 2, 45)
def mX2_sortOfDigits : MD := (yX2_sortOfDigits, cX2_sortOfDigits, 3, (some .int), 1, 21)
def mX3_init : MD := (yX3_init, cX3_init, 1, none, 1, 20)
def mX3_add : MD := (yX3_add, cX3_add, 2, none, 1, 22)
def mX3_empty : MD := (yX3_empty, cX3_empty, 2, (some .int), 0, 0)
def mX3_byteAt : MD := (yX3_byteAt, cX3_byteAt, 2, (some .int), 0, 0)
def mX3_behindRun : MD := (yX3_behindRun, cX3_behindRun, 5, (some .int), 1, 21)
def mX4_init : MD := (yX4_init, cX4_init, 1, none, 1, 20)
def mX4_empty : MD := (yX4_empty, cX4_empty, 1, none, 0, 0)
def mX4_copy : MD := (yX4_copy, cX4_copy, 2, none, 2, 61)
def mX4_takesRow : MD := (yX4_takesRow, cX4_takesRow, 1, (some .boolean), 0, 0)
def mX4_beginRow : MD := (yX4_beginRow, cX4_beginRow, 2, (some .boolean), 0, 0)
def mX4_addCell : MD := (yX4_addCell, cX4_addCell, 2, (some .boolean), 0, 0)
def mX4_addWalker : MD := (yX4_addWalker, cX4_addWalker, 3, none, 1, 22)
def mX5_init : MD := (yX5_init, cX5_init, 1, none, 1, 20)
def mX5_measure : MD := (yX5_measure, cX5_measure, 4, none, 0, 0)
def mX5_near : MD := (yX5_near, cX5_near, 8, (some .int), 0, 0)
def mX5_spread : MD := (yX5_spread, cX5_spread, 6, (some .int), 1, 27)
def mX5_joins : MD := (yX5_joins, cX5_joins, 4, (some .boolean), 2, 52)
def mX5_fewestSteps : MD := (yX5_fewestSteps, cX5_fewestSteps, 7, (some .int), 1, 27)
def mX5_nextCell : MD := (yX5_nextCell, cX5_nextCell, 7, (some .int), 2, 53)
def mX5_fewestStones : MD := (yX5_fewestStones, cX5_fewestStones, 6, (some .int), 2, 52)
def mX6_init : MD := (yX6_init, cX6_init, 1, none, 3, 60)
def mX6_type : MD := (yX6_type, cX6_type, 5, (some .int), 2, 43)
def mX6_clear : MD := (yX6_clear, cX6_clear, 1, (some .int), 1, 21)
def mX6_moor : MD := (yX6_moor, cX6_moor, 2, (some .int), 8, 172)
def mX6_cell : MD := (yX6_cell, cX6_cell, 3, (some .int), 2, 42)
def mX6_walker : MD := (yX6_walker, cX6_walker, 3, (some .int), 2, 44)
def mX6_passes : MD := (yX6_passes, cX6_passes, 3, (some .int), 4, 106)
def mX6_days : MD := (yX6_days, cX6_days, 5, (some .int), 4, 106)
def mX6_now : MD := (yX6_now, cX6_now, 2, (some .int), 2, 43)
def mX6_anew : MD := (yX6_anew, cX6_anew, 2, (some .int), 2, 44)
def mX6_steps : MD := (yX6_steps, cX6_steps, 3, (some .int), 2, 53)
def mX6_way : MD := (yX6_way, cX6_way, 7, (some .int), 3, 79)
def mX6_stones : MD := (yX6_stones, cX6_stones, 3, (some .int), 3, 77)
def mX6_joined : MD := (yX6_joined, cX6_joined, 4, (some .int), 4, 102)
def mX6_likes : MD := (yX6_likes, cX6_likes, 2, (some .int), 4, 103)
def mX6_byTurns : MD := (yX6_byTurns, cX6_byTurns, 3, (some .int), 4, 103)
def mX6_apart : MD := (yX6_apart, cX6_apart, 4, (some .int), 4, 103)
def mX6_rate : MD := (yX6_rate, cX6_rate, 3, (some .int), 6, 137)
def mX6_keep : MD := (yX6_keep, cX6_keep, 3, (some .int), 3, 82)
def mX6_back : MD := (yX6_back, cX6_back, 3, (some .int), 3, 82)
def mX6_count : MD := (yX6_count, cX6_count, 2, (some .int), 0, 0)
def mX6_trace : MD := (yX6_trace, cX6_trace, 1, (some .long), 0, 0)
def mX6_isCell : MD := (yX6_isCell, cX6_isCell, 2, (some .boolean), 0, 0)
def mX6_isWalker : MD := (yX6_isWalker, cX6_isWalker, 2, (some .boolean), 0, 0)
def mX6_imageOf : MD := (yX6_imageOf, cX6_imageOf, 2, (some (.object "MoorStones$Now")), 0, 0)
def mX6_bearing : MD := (yX6_bearing, cX6_bearing, 1, (some .int), 0, 0)
def mX6_stepsOf : MD := (yX6_stepsOf, cX6_stepsOf, 2, (some .int), 2, 53)
def mX6_likedBy : MD := (yX6_likedBy, cX6_likedBy, 2, (some .int), 3, 82)
def mX6_goAndLay : MD := (yX6_goAndLay, cX6_goAndLay, 8, (some .int), 3, 79)
def mX6_rateWalker : MD := (yX6_rateWalker, cX6_rateWalker, 2, (some .int), 3, 74)
def mX6_ratePilgrim : MD := (yX6_ratePilgrim, cX6_ratePilgrim, 2, (some .int), 4, 95)
def mX6_rateShepherd : MD := (yX6_rateShepherd, cX6_rateShepherd, 2, (some .int), 4, 95)
def mX6_rateMonk : MD := (yX6_rateMonk, cX6_rateMonk, 2, (some .int), 5, 116)
def mX6_rateThief : MD := (yX6_rateThief, cX6_rateThief, 2, (some .int), 5, 116)
def mX6_rateChild : MD := (yX6_rateChild, cX6_rateChild, 2, (some .int), 4, 95)
def mX6_at : MD := (yX6_at, cX6_at, 2, (some .int), 0, 0)
def mX6_put : MD := (yX6_put, cX6_put, 3, none, 0, 0)
def mX6_copyRow : MD := (yX6_copyRow, cX6_copyRow, 2, none, 1, 40)
def mX6_has : MD := (yX6_has, cX6_has, 2, (some .boolean), 0, 0)
def mX7_init : MD := (yX7_init, cX7_init, 1, none, 1, 20)
def mX7_in : MD := (yX7_in, cX7_in, 3, (some .boolean), 0, 0)
def mX7_isCell : MD := (yX7_isCell, cX7_isCell, 2, (some .boolean), 1, 22)
def mX7_isWalker : MD := (yX7_isWalker, cX7_isWalker, 2, (some .boolean), 1, 22)
def mX7_type : MD := (yX7_type, cX7_type, 5, (some .int), 1, 22)
def mX7_clear : MD := (yX7_clear, cX7_clear, 2, (some .int), 0, 0)
def mX7_byteAt : MD := (yX7_byteAt, cX7_byteAt, 2, (some .int), 0, 0)
def mX7_sortOf : MD := (yX7_sortOf, cX7_sortOf, 1, (some .int), 1, 22)
def mX7_token : MD := (yX7_token, cX7_token, 1, none, 2, 42)
def mX7_verb : MD := (yX7_verb, cX7_verb, 4, (some .int), 1, 21)
def mX7_number : MD := (yX7_number, cX7_number, 3, (some .int), 3, 62)
def mX7_readsRow : MD := (yX7_readsRow, cX7_readsRow, 4, (some .boolean), 3, 62)
def mX7_readsWalker : MD := (yX7_readsWalker, cX7_readsWalker, 4, (some .boolean), 4, 84)
def mX7_readsSink : MD := (yX7_readsSink, cX7_readsSink, 2, (some .boolean), 4, 84)
def mX7_reads : MD := (yX7_reads, cX7_reads, 4, (some .int), 5, 107)
def mX7_begins : MD := (yX7_begins, cX7_begins, 2, none, 0, 0)
def mX7_moor : MD := (yX7_moor, cX7_moor, 3, (some .int), 6, 130)
def mX7_cell : MD := (yX7_cell, cX7_cell, 3, (some .int), 2, 43)
def mX7_laidBy : MD := (yX7_laidBy, cX7_laidBy, 4, (some .int), 0, 0)
def mX7_walker : MD := (yX7_walker, cX7_walker, 3, (some .int), 2, 43)
def mX7_apartBy : MD := (yX7_apartBy, cX7_apartBy, 2, (some .int), 0, 0)
def mX7_isStep : MD := (yX7_isStep, cX7_isStep, 5, (some .boolean), 1, 22)
def mX7_measures : MD := (yX7_measures, cX7_measures, 7, none, 2, 46)
def mX7_onward : MD := (yX7_onward, cX7_onward, 4, (some .int), 2, 46)
def mX7_stepsOf : MD := (yX7_stepsOf, cX7_stepsOf, 3, (some .int), 3, 72)
def mX7_passesAndLays : MD := (yX7_passesAndLays, cX7_passesAndLays, 6, none, 4, 94)
def mX7_passes : MD := (yX7_passes, cX7_passes, 4, (some .int), 5, 119)
def mX7_likesOf : MD := (yX7_likesOf, cX7_likesOf, 6, (some .int), 4, 94)
def mX7_days : MD := (yX7_days, cX7_days, 6, (some .int), 5, 119)
def mX7_passedInAll : MD := (yX7_passedInAll, cX7_passedInAll, 1, (some .int), 0, 0)
def mX7_many : MD := (yX7_many, cX7_many, 4, (some .int), 0, 0)
def mX7_now : MD := (yX7_now, cX7_now, 2, (some .int), 1, 23)
def mX7_anew : MD := (yX7_anew, cX7_anew, 2, (some .int), 1, 21)
def mX7_steps : MD := (yX7_steps, cX7_steps, 3, (some .int), 4, 94)
def mX7_way : MD := (yX7_way, cX7_way, 7, (some .int), 4, 94)
def mX7_costs : MD := (yX7_costs, cX7_costs, 9, (some .int), 2, 46)
def mX7_stones : MD := (yX7_stones, cX7_stones, 3, (some .int), 3, 74)
def mX7_bearing : MD := (yX7_bearing, cX7_bearing, 3, (some .int), 0, 0)
def mX7_listsBogs : MD := (yX7_listsBogs, cX7_listsBogs, 3, (some .int), 0, 0)
def mX7_chosen : MD := (yX7_chosen, cX7_chosen, 5, (some .int), 0, 0)
def mX7_nears : MD := (yX7_nears, cX7_nears, 3, none, 2, 46)
def mX7_reached : MD := (yX7_reached, cX7_reached, 7, (some .int), 0, 0)
def mX7_ones : MD := (yX7_ones, cX7_ones, 3, (some .int), 0, 0)
def mX7_joins : MD := (yX7_joins, cX7_joins, 9, (some .int), 1, 26)
def mX7_joined : MD := (yX7_joined, cX7_joined, 6, (some .int), 3, 68)
def mX7_likes : MD := (yX7_likes, cX7_likes, 2, (some .int), 5, 119)
def mX7_byTurns : MD := (yX7_byTurns, cX7_byTurns, 11, (some .int), 3, 68)
def mX7_apart : MD := (yX7_apart, cX7_apart, 10, (some .int), 3, 68)
def mX7_rate : MD := (yX7_rate, cX7_rate, 7, (some .int), 4, 94)
def mX7_keep : MD := (yX7_keep, cX7_keep, 3, (some .int), 1, 23)
def mX7_back : MD := (yX7_back, cX7_back, 3, (some .int), 1, 23)
def mX7_count : MD := (yX7_count, cX7_count, 2, (some .int), 0, 0)
def mX7_trace : MD := (yX7_trace, cX7_trace, 1, (some .long), 0, 0)
def mJ6_bitCount_0f7a4 : MD := (yJ6_bitCount_0f7a4, cJ6_bitCount_0f7a4, 1, (some .int), 0, 0)
def mJ0_length_8abf5 : MD := (yJ0_length_8abf5, cJ0_length_8abf5, 1, (some .int), 1, 20)
def mJ0_charAt_5068e : MD := (yJ0_charAt_5068e, cJ0_charAt_5068e, 2, (some .char), 4, 85)
def mJ0_coder_7d493 : MD := (yJ0_coder_7d493, cJ0_coder_7d493, 1, (some .byte), 0, 0)
def mJ0_isLatin1_aae02 : MD := (yJ0_isLatin1_aae02, cJ0_isLatin1_aae02, 1, (some .boolean), 0, 0)
def mJ0_checkIndex_df160 : MD := (yJ0_checkIndex_df160, cJ0_checkIndex_df160, 2, none, 1, 22)
def mJ1_charAt_3b067 : MD := (yJ1_charAt_3b067, cJ1_charAt_3b067, 2, (some .char), 2, 43)
def mJ2_getChar_3b067 : MD := (yJ2_getChar_3b067, cJ2_getChar_3b067, 2, (some .char), 1, 20)
def mJ2_length_9d52b : MD := (yJ2_length_9d52b, cJ2_length_9d52b, 1, (some .int), 0, 0)
def mJ2_charAt_3b067 : MD := (yJ2_charAt_3b067, cJ2_charAt_3b067, 2, (some .char), 3, 64)
def mJ2_checkIndex_2214a : MD := (yJ2_checkIndex_2214a, cJ2_checkIndex_2214a, 2, none, 2, 43)
def mJ3_checkIndex_8e157 : MD := (yJ3_checkIndex_8e157, cJ3_checkIndex_8e157, 3, (some .int), 0, 0)
theorem cfX0_beginAsTold : CFV mX0_beginAsTold 1 := ⟨⟨(wR12 _ (List.mem_of_getElem? (i := 15) rfl)), (wR2 _ (List.mem_of_getElem? (i := 6) rfl)), by decide +kernel, by decide +kernel, by decide +kernel⟩, (wR12 _ (List.mem_of_getElem? (i := 13) rfl)), (wR12 _ (List.mem_of_getElem? (i := 14) rfl))⟩
theorem cfX0_copy : CFV mX0_copy 1 := ⟨⟨(wR29 _ (List.mem_of_getElem? (i := 23) rfl)), (wR2 _ (List.mem_of_getElem? (i := 6) rfl)), by decide +kernel, by decide +kernel, by decide +kernel⟩, (wR29 _ (List.mem_of_getElem? (i := 21) rfl)), (wR29 _ (List.mem_of_getElem? (i := 22) rfl))⟩
theorem cfX0_groundOf : CFV mX0_groundOf 1 := ⟨⟨(wR15 _ (List.mem_of_getElem? (i := 18) rfl)), (wR2 _ (List.mem_of_getElem? (i := 6) rfl)), by decide +kernel, by decide +kernel, by decide +kernel⟩, (wR15 _ (List.mem_of_getElem? (i := 16) rfl)), (wR15 _ (List.mem_of_getElem? (i := 17) rfl))⟩
theorem cfX0_laidBy : CFV mX0_laidBy 1 := ⟨⟨(wR16 _ (List.mem_of_getElem? (i := 17) rfl)), (wR2 _ (List.mem_of_getElem? (i := 6) rfl)), by decide +kernel, by decide +kernel, by decide +kernel⟩, (wR16 _ (List.mem_of_getElem? (i := 15) rfl)), (wR16 _ (List.mem_of_getElem? (i := 16) rfl))⟩
theorem cfX0_passedByAll : CFV mX0_passedByAll 0 := ⟨⟨(wR21 _ (List.mem_of_getElem? (i := 10) rfl)), (wR2 _ (List.mem_of_getElem? (i := 6) rfl)), by decide +kernel, by decide +kernel, by decide +kernel⟩, (wR21 _ (List.mem_of_getElem? (i := 8) rfl)), (wR21 _ (List.mem_of_getElem? (i := 9) rfl))⟩
theorem cfX0_stepOn : CFV mX0_stepOn 1 := ⟨⟨(wR18 _ (List.mem_of_getElem? (i := 15) rfl)), (wR2 _ (List.mem_of_getElem? (i := 6) rfl)), by decide +kernel, by decide +kernel, by decide +kernel⟩, (wR18 _ (List.mem_of_getElem? (i := 13) rfl)), (wR18 _ (List.mem_of_getElem? (i := 14) rfl))⟩
theorem cfX0_lay : CFV mX0_lay 3 := ⟨⟨(wR18 _ (List.mem_of_getElem? (i := 19) rfl)), (wR2 _ (List.mem_of_getElem? (i := 6) rfl)), by decide +kernel, by decide +kernel, by decide +kernel⟩, (wR18 _ (List.mem_of_getElem? (i := 17) rfl)), (wR18 _ (List.mem_of_getElem? (i := 18) rfl))⟩
theorem cfX1_bestToLay : CFV mX1_bestToLay 4 := ⟨⟨(wR20 _ (List.mem_of_getElem? (i := 10) rfl)), (wR2 _ (List.mem_of_getElem? (i := 1) rfl)), by decide +kernel, by decide +kernel, by decide +kernel⟩, (wR20 _ (List.mem_of_getElem? (i := 8) rfl)), (wR20 _ (List.mem_of_getElem? (i := 9) rfl))⟩
theorem cfX1_leastJoining : CFV mX1_leastJoining 3 := ⟨⟨(wR24 _ (List.mem_of_getElem? (i := 2) rfl)), (wR2 _ (List.mem_of_getElem? (i := 1) rfl)), by decide +kernel, by decide +kernel, by decide +kernel⟩, (wR24 _ (List.mem_of_getElem? (i := 0) rfl)), (wR24 _ (List.mem_of_getElem? (i := 1) rfl))⟩
theorem cfX1_joinsAll : CFV mX1_joinsAll 2 := ⟨⟨(wR24 _ (List.mem_of_getElem? (i := 7) rfl)), (wR2 _ (List.mem_of_getElem? (i := 1) rfl)), by decide +kernel, by decide +kernel, by decide +kernel⟩, (wR24 _ (List.mem_of_getElem? (i := 5) rfl)), (wR24 _ (List.mem_of_getElem? (i := 6) rfl))⟩
theorem cfX1_laidByTurns : CFV mX1_laidByTurns 4 := ⟨⟨(wR26 _ (List.mem_of_getElem? (i := 7) rfl)), (wR2 _ (List.mem_of_getElem? (i := 1) rfl)), by decide +kernel, by decide +kernel, by decide +kernel⟩, (wR26 _ (List.mem_of_getElem? (i := 5) rfl)), (wR26 _ (List.mem_of_getElem? (i := 6) rfl))⟩
theorem cfX1_bestOfNext : CFV mX1_bestOfNext 2 := ⟨⟨(wR26 _ (List.mem_of_getElem? (i := 15) rfl)), (wR2 _ (List.mem_of_getElem? (i := 1) rfl)), by decide +kernel, by decide +kernel, by decide +kernel⟩, (wR26 _ (List.mem_of_getElem? (i := 13) rfl)), (wR26 _ (List.mem_of_getElem? (i := 14) rfl))⟩
theorem cfX1_fewestApart : CFV mX1_fewestApart 3 := ⟨⟨(wR27 _ (List.mem_of_getElem? (i := 8) rfl)), (wR2 _ (List.mem_of_getElem? (i := 1) rfl)), by decide +kernel, by decide +kernel, by decide +kernel⟩, (wR27 _ (List.mem_of_getElem? (i := 6) rfl)), (wR27 _ (List.mem_of_getElem? (i := 7) rfl))⟩
theorem cfX2_readInto : CFV mX2_readInto 1 := ⟨⟨(wR6 _ (List.mem_of_getElem? (i := 11) rfl)), (wR1 _ (List.mem_of_getElem? (i := 15) rfl)), by decide +kernel, by decide +kernel, by decide +kernel⟩, (wR6 _ (List.mem_of_getElem? (i := 9) rfl)), (wR6 _ (List.mem_of_getElem? (i := 10) rfl))⟩
theorem cfX2_readItem : CFV mX2_readItem 1 := ⟨⟨(wR8 _ (List.mem_of_getElem? (i := 0) rfl)), (wR1 _ (List.mem_of_getElem? (i := 15) rfl)), by decide +kernel, by decide +kernel, by decide +kernel⟩, (wR7 _ (List.mem_of_getElem? (i := 22) rfl)), (wR7 _ (List.mem_of_getElem? (i := 23) rfl))⟩
theorem cfX2_readRow : CFV mX2_readRow 1 := ⟨⟨(wR10 _ (List.mem_of_getElem? (i := 9) rfl)), (wR1 _ (List.mem_of_getElem? (i := 15) rfl)), by decide +kernel, by decide +kernel, by decide +kernel⟩, (wR10 _ (List.mem_of_getElem? (i := 7) rfl)), (wR10 _ (List.mem_of_getElem? (i := 8) rfl))⟩
theorem cfX2_readWalker : CFV mX2_readWalker 1 := ⟨⟨(wR11 _ (List.mem_of_getElem? (i := 1) rfl)), (wR1 _ (List.mem_of_getElem? (i := 15) rfl)), by decide +kernel, by decide +kernel, by decide +kernel⟩, (wR10 _ (List.mem_of_getElem? (i := 23) rfl)), (wR11 _ (List.mem_of_getElem? (i := 0) rfl))⟩
theorem cfX2_readSink : CFV mX2_readSink 1 := ⟨⟨(wR11 _ (List.mem_of_getElem? (i := 13) rfl)), (wR1 _ (List.mem_of_getElem? (i := 15) rfl)), by decide +kernel, by decide +kernel, by decide +kernel⟩, (wR11 _ (List.mem_of_getElem? (i := 11) rfl)), (wR11 _ (List.mem_of_getElem? (i := 12) rfl))⟩
theorem cfX2_isNumberTo : CFV mX2_isNumberTo 1 := ⟨⟨(wR11 _ (List.mem_of_getElem? (i := 5) rfl)), (wR1 _ (List.mem_of_getElem? (i := 15) rfl)), by decide +kernel, by decide +kernel, by decide +kernel⟩, (wR11 _ (List.mem_of_getElem? (i := 3) rfl)), (wR11 _ (List.mem_of_getElem? (i := 4) rfl))⟩
theorem cfX2_isWord : CFV mX2_isWord 1 := ⟨⟨(wR8 _ (List.mem_of_getElem? (i := 4) rfl)), (wR1 _ (List.mem_of_getElem? (i := 15) rfl)), by decide +kernel, by decide +kernel, by decide +kernel⟩, (wR8 _ (List.mem_of_getElem? (i := 2) rfl)), (wR8 _ (List.mem_of_getElem? (i := 3) rfl))⟩
theorem cfX2_toNextToken : CFV mX2_toNextToken 0 := ⟨⟨(wR7 _ (List.mem_of_getElem? (i := 6) rfl)), (wR1 _ (List.mem_of_getElem? (i := 15) rfl)), by decide +kernel, by decide +kernel, by decide +kernel⟩, (wR7 _ (List.mem_of_getElem? (i := 4) rfl)), (wR7 _ (List.mem_of_getElem? (i := 5) rfl))⟩
theorem cfX2_sortOfDigits : CFV mX2_sortOfDigits 1 := ⟨⟨(wR7 _ (List.mem_of_getElem? (i := 19) rfl)), (wR1 _ (List.mem_of_getElem? (i := 15) rfl)), by decide +kernel, by decide +kernel, by decide +kernel⟩, (wR7 _ (List.mem_of_getElem? (i := 17) rfl)), (wR7 _ (List.mem_of_getElem? (i := 18) rfl))⟩
theorem cfX3_add : CFV mX3_add 1 := ⟨⟨(wR5 _ (List.mem_of_getElem? (i := 4) rfl)), (wR2 _ (List.mem_of_getElem? (i := 17) rfl)), by decide +kernel, by decide +kernel, by decide +kernel⟩, (wR5 _ (List.mem_of_getElem? (i := 2) rfl)), (wR5 _ (List.mem_of_getElem? (i := 3) rfl))⟩
theorem cfX3_empty : CFV mX3_empty 0 := ⟨⟨(wR5 _ (List.mem_of_getElem? (i := 23) rfl)), (wR2 _ (List.mem_of_getElem? (i := 17) rfl)), by decide +kernel, by decide +kernel, by decide +kernel⟩, (wR5 _ (List.mem_of_getElem? (i := 21) rfl)), (wR5 _ (List.mem_of_getElem? (i := 22) rfl))⟩
theorem cfX3_byteAt : CFV mX3_byteAt 1 := ⟨⟨(wR7 _ (List.mem_of_getElem? (i := 14) rfl)), (wR2 _ (List.mem_of_getElem? (i := 17) rfl)), by decide +kernel, by decide +kernel, by decide +kernel⟩, (wR7 _ (List.mem_of_getElem? (i := 12) rfl)), (wR7 _ (List.mem_of_getElem? (i := 13) rfl))⟩
theorem cfX3_behindRun : CFV mX3_behindRun 3 := ⟨⟨(wR7 _ (List.mem_of_getElem? (i := 10) rfl)), (wR2 _ (List.mem_of_getElem? (i := 17) rfl)), by decide +kernel, by decide +kernel, by decide +kernel⟩, (wR7 _ (List.mem_of_getElem? (i := 8) rfl)), (wR7 _ (List.mem_of_getElem? (i := 9) rfl))⟩
theorem cfX4_empty : CFV mX4_empty 0 := ⟨⟨(wR6 _ (List.mem_of_getElem? (i := 18) rfl)), (wR1 _ (List.mem_of_getElem? (i := 20) rfl)), by decide +kernel, by decide +kernel, by decide +kernel⟩, (wR6 _ (List.mem_of_getElem? (i := 16) rfl)), (wR6 _ (List.mem_of_getElem? (i := 17) rfl))⟩
theorem cfX4_copy : CFV mX4_copy 1 := ⟨⟨(wR11 _ (List.mem_of_getElem? (i := 17) rfl)), (wR1 _ (List.mem_of_getElem? (i := 20) rfl)), by decide +kernel, by decide +kernel, by decide +kernel⟩, (wR11 _ (List.mem_of_getElem? (i := 15) rfl)), (wR11 _ (List.mem_of_getElem? (i := 16) rfl))⟩
theorem cfX4_takesRow : CFV mX4_takesRow 0 := ⟨⟨(wR10 _ (List.mem_of_getElem? (i := 13) rfl)), (wR1 _ (List.mem_of_getElem? (i := 20) rfl)), by decide +kernel, by decide +kernel, by decide +kernel⟩, (wR10 _ (List.mem_of_getElem? (i := 11) rfl)), (wR10 _ (List.mem_of_getElem? (i := 12) rfl))⟩
theorem cfX4_beginRow : CFV mX4_beginRow 1 := ⟨⟨(wR10 _ (List.mem_of_getElem? (i := 17) rfl)), (wR1 _ (List.mem_of_getElem? (i := 20) rfl)), by decide +kernel, by decide +kernel, by decide +kernel⟩, (wR10 _ (List.mem_of_getElem? (i := 15) rfl)), (wR10 _ (List.mem_of_getElem? (i := 16) rfl))⟩
theorem cfX4_addCell : CFV mX4_addCell 1 := ⟨⟨(wR10 _ (List.mem_of_getElem? (i := 21) rfl)), (wR1 _ (List.mem_of_getElem? (i := 20) rfl)), by decide +kernel, by decide +kernel, by decide +kernel⟩, (wR10 _ (List.mem_of_getElem? (i := 19) rfl)), (wR10 _ (List.mem_of_getElem? (i := 20) rfl))⟩
theorem cfX4_addWalker : CFV mX4_addWalker 2 := ⟨⟨(wR11 _ (List.mem_of_getElem? (i := 9) rfl)), (wR1 _ (List.mem_of_getElem? (i := 20) rfl)), by decide +kernel, by decide +kernel, by decide +kernel⟩, (wR11 _ (List.mem_of_getElem? (i := 7) rfl)), (wR11 _ (List.mem_of_getElem? (i := 8) rfl))⟩
theorem cfX5_measure : CFV mX5_measure 2 := ⟨⟨(wR12 _ (List.mem_of_getElem? (i := 7) rfl)), (wR3 _ (List.mem_of_getElem? (i := 14) rfl)), by decide +kernel, by decide +kernel, by decide +kernel⟩, (wR12 _ (List.mem_of_getElem? (i := 5) rfl)), (wR12 _ (List.mem_of_getElem? (i := 6) rfl))⟩
theorem cfX5_near : CFV mX5_near 1 := ⟨⟨(wR18 _ (List.mem_of_getElem? (i := 1) rfl)), (wR3 _ (List.mem_of_getElem? (i := 14) rfl)), by decide +kernel, by decide +kernel, by decide +kernel⟩, (wR17 _ (List.mem_of_getElem? (i := 23) rfl)), (wR18 _ (List.mem_of_getElem? (i := 0) rfl))⟩
theorem cfX5_spread : CFV mX5_spread 2 := ⟨⟨(wR23 _ (List.mem_of_getElem? (i := 10) rfl)), (wR3 _ (List.mem_of_getElem? (i := 14) rfl)), by decide +kernel, by decide +kernel, by decide +kernel⟩, (wR23 _ (List.mem_of_getElem? (i := 8) rfl)), (wR23 _ (List.mem_of_getElem? (i := 9) rfl))⟩
theorem cfX5_joins : CFV mX5_joins 3 := ⟨⟨(wR26 _ (List.mem_of_getElem? (i := 11) rfl)), (wR3 _ (List.mem_of_getElem? (i := 14) rfl)), by decide +kernel, by decide +kernel, by decide +kernel⟩, (wR26 _ (List.mem_of_getElem? (i := 9) rfl)), (wR26 _ (List.mem_of_getElem? (i := 10) rfl))⟩
theorem cfX5_fewestSteps : CFV mX5_fewestSteps 3 := ⟨⟨(wR17 _ (List.mem_of_getElem? (i := 21) rfl)), (wR3 _ (List.mem_of_getElem? (i := 14) rfl)), by decide +kernel, by decide +kernel, by decide +kernel⟩, (wR17 _ (List.mem_of_getElem? (i := 19) rfl)), (wR17 _ (List.mem_of_getElem? (i := 20) rfl))⟩
theorem cfX5_nextCell : CFV mX5_nextCell 3 := ⟨⟨(wR18 _ (List.mem_of_getElem? (i := 10) rfl)), (wR3 _ (List.mem_of_getElem? (i := 14) rfl)), by decide +kernel, by decide +kernel, by decide +kernel⟩, (wR18 _ (List.mem_of_getElem? (i := 8) rfl)), (wR18 _ (List.mem_of_getElem? (i := 9) rfl))⟩
theorem cfX5_fewestStones : CFV mX5_fewestStones 3 := ⟨⟨(wR23 _ (List.mem_of_getElem? (i := 6) rfl)), (wR3 _ (List.mem_of_getElem? (i := 14) rfl)), by decide +kernel, by decide +kernel, by decide +kernel⟩, (wR23 _ (List.mem_of_getElem? (i := 4) rfl)), (wR23 _ (List.mem_of_getElem? (i := 5) rfl))⟩
theorem cfX6_type : CFV mX6_type 2 := ⟨⟨(wR5 _ (List.mem_of_getElem? (i := 0) rfl)), (wR1 _ (List.mem_of_getElem? (i := 2) rfl)), by decide +kernel, by decide +kernel, by decide +kernel⟩, (wR4 _ (List.mem_of_getElem? (i := 22) rfl)), (wR4 _ (List.mem_of_getElem? (i := 23) rfl))⟩
theorem cfX6_clear : CFV mX6_clear 0 := ⟨⟨(wR5 _ (List.mem_of_getElem? (i := 19) rfl)), (wR1 _ (List.mem_of_getElem? (i := 2) rfl)), by decide +kernel, by decide +kernel, by decide +kernel⟩, (wR5 _ (List.mem_of_getElem? (i := 17) rfl)), (wR5 _ (List.mem_of_getElem? (i := 18) rfl))⟩
theorem cfX6_moor : CFV mX6_moor 0 := ⟨⟨(wR6 _ (List.mem_of_getElem? (i := 7) rfl)), (wR1 _ (List.mem_of_getElem? (i := 2) rfl)), by decide +kernel, by decide +kernel, by decide +kernel⟩, (wR6 _ (List.mem_of_getElem? (i := 5) rfl)), (wR6 _ (List.mem_of_getElem? (i := 6) rfl))⟩
theorem cfX6_cell : CFV mX6_cell 2 := ⟨⟨(wR15 _ (List.mem_of_getElem? (i := 10) rfl)), (wR1 _ (List.mem_of_getElem? (i := 2) rfl)), by decide +kernel, by decide +kernel, by decide +kernel⟩, (wR15 _ (List.mem_of_getElem? (i := 8) rfl)), (wR15 _ (List.mem_of_getElem? (i := 9) rfl))⟩
theorem cfX6_walker : CFV mX6_walker 2 := ⟨⟨(wR16 _ (List.mem_of_getElem? (i := 9) rfl)), (wR1 _ (List.mem_of_getElem? (i := 2) rfl)), by decide +kernel, by decide +kernel, by decide +kernel⟩, (wR16 _ (List.mem_of_getElem? (i := 7) rfl)), (wR16 _ (List.mem_of_getElem? (i := 8) rfl))⟩
theorem cfX6_passes : CFV mX6_passes 2 := ⟨⟨(wR17 _ (List.mem_of_getElem? (i := 9) rfl)), (wR1 _ (List.mem_of_getElem? (i := 2) rfl)), by decide +kernel, by decide +kernel, by decide +kernel⟩, (wR17 _ (List.mem_of_getElem? (i := 7) rfl)), (wR17 _ (List.mem_of_getElem? (i := 8) rfl))⟩
theorem cfX6_days : CFV mX6_days 1 := ⟨⟨(wR20 _ (List.mem_of_getElem? (i := 2) rfl)), (wR1 _ (List.mem_of_getElem? (i := 2) rfl)), by decide +kernel, by decide +kernel, by decide +kernel⟩, (wR20 _ (List.mem_of_getElem? (i := 0) rfl)), (wR20 _ (List.mem_of_getElem? (i := 1) rfl))⟩
theorem cfX6_now : CFV mX6_now 1 := ⟨⟨(wR20 _ (List.mem_of_getElem? (i := 23) rfl)), (wR1 _ (List.mem_of_getElem? (i := 2) rfl)), by decide +kernel, by decide +kernel, by decide +kernel⟩, (wR20 _ (List.mem_of_getElem? (i := 21) rfl)), (wR20 _ (List.mem_of_getElem? (i := 22) rfl))⟩
theorem cfX6_anew : CFV mX6_anew 0 := ⟨⟨(wR22 _ (List.mem_of_getElem? (i := 2) rfl)), (wR1 _ (List.mem_of_getElem? (i := 2) rfl)), by decide +kernel, by decide +kernel, by decide +kernel⟩, (wR22 _ (List.mem_of_getElem? (i := 0) rfl)), (wR22 _ (List.mem_of_getElem? (i := 1) rfl))⟩
theorem cfX6_steps : CFV mX6_steps 2 := ⟨⟨(wR22 _ (List.mem_of_getElem? (i := 10) rfl)), (wR1 _ (List.mem_of_getElem? (i := 2) rfl)), by decide +kernel, by decide +kernel, by decide +kernel⟩, (wR22 _ (List.mem_of_getElem? (i := 8) rfl)), (wR22 _ (List.mem_of_getElem? (i := 9) rfl))⟩
theorem cfX6_way : CFV mX6_way 3 := ⟨⟨(wR22 _ (List.mem_of_getElem? (i := 18) rfl)), (wR1 _ (List.mem_of_getElem? (i := 2) rfl)), by decide +kernel, by decide +kernel, by decide +kernel⟩, (wR22 _ (List.mem_of_getElem? (i := 16) rfl)), (wR22 _ (List.mem_of_getElem? (i := 17) rfl))⟩
theorem cfX6_stones : CFV mX6_stones 2 := ⟨⟨(wR23 _ (List.mem_of_getElem? (i := 2) rfl)), (wR1 _ (List.mem_of_getElem? (i := 2) rfl)), by decide +kernel, by decide +kernel, by decide +kernel⟩, (wR23 _ (List.mem_of_getElem? (i := 0) rfl)), (wR23 _ (List.mem_of_getElem? (i := 1) rfl))⟩
theorem cfX6_joined : CFV mX6_joined 2 := ⟨⟨(wR23 _ (List.mem_of_getElem? (i := 22) rfl)), (wR1 _ (List.mem_of_getElem? (i := 2) rfl)), by decide +kernel, by decide +kernel, by decide +kernel⟩, (wR23 _ (List.mem_of_getElem? (i := 20) rfl)), (wR23 _ (List.mem_of_getElem? (i := 21) rfl))⟩
theorem cfX6_likes : CFV mX6_likes 1 := ⟨⟨(wR25 _ (List.mem_of_getElem? (i := 19) rfl)), (wR1 _ (List.mem_of_getElem? (i := 2) rfl)), by decide +kernel, by decide +kernel, by decide +kernel⟩, (wR25 _ (List.mem_of_getElem? (i := 17) rfl)), (wR25 _ (List.mem_of_getElem? (i := 18) rfl))⟩
theorem cfX6_byTurns : CFV mX6_byTurns 2 := ⟨⟨(wR26 _ (List.mem_of_getElem? (i := 3) rfl)), (wR1 _ (List.mem_of_getElem? (i := 2) rfl)), by decide +kernel, by decide +kernel, by decide +kernel⟩, (wR26 _ (List.mem_of_getElem? (i := 1) rfl)), (wR26 _ (List.mem_of_getElem? (i := 2) rfl))⟩
theorem cfX6_apart : CFV mX6_apart 2 := ⟨⟨(wR27 _ (List.mem_of_getElem? (i := 3) rfl)), (wR1 _ (List.mem_of_getElem? (i := 2) rfl)), by decide +kernel, by decide +kernel, by decide +kernel⟩, (wR27 _ (List.mem_of_getElem? (i := 1) rfl)), (wR27 _ (List.mem_of_getElem? (i := 2) rfl))⟩
theorem cfX6_rate : CFV mX6_rate 2 := ⟨⟨(wR27 _ (List.mem_of_getElem? (i := 17) rfl)), (wR1 _ (List.mem_of_getElem? (i := 2) rfl)), by decide +kernel, by decide +kernel, by decide +kernel⟩, (wR27 _ (List.mem_of_getElem? (i := 15) rfl)), (wR27 _ (List.mem_of_getElem? (i := 16) rfl))⟩
theorem cfX6_keep : CFV mX6_keep 1 := ⟨⟨(wR29 _ (List.mem_of_getElem? (i := 15) rfl)), (wR1 _ (List.mem_of_getElem? (i := 2) rfl)), by decide +kernel, by decide +kernel, by decide +kernel⟩, (wR29 _ (List.mem_of_getElem? (i := 13) rfl)), (wR29 _ (List.mem_of_getElem? (i := 14) rfl))⟩
theorem cfX6_back : CFV mX6_back 1 := ⟨⟨(wR30 _ (List.mem_of_getElem? (i := 7) rfl)), (wR1 _ (List.mem_of_getElem? (i := 2) rfl)), by decide +kernel, by decide +kernel, by decide +kernel⟩, (wR30 _ (List.mem_of_getElem? (i := 5) rfl)), (wR30 _ (List.mem_of_getElem? (i := 6) rfl))⟩
theorem cfX6_count : CFV mX6_count 1 := ⟨⟨(wR30 _ (List.mem_of_getElem? (i := 15) rfl)), (wR1 _ (List.mem_of_getElem? (i := 2) rfl)), by decide +kernel, by decide +kernel, by decide +kernel⟩, (wR30 _ (List.mem_of_getElem? (i := 13) rfl)), (wR30 _ (List.mem_of_getElem? (i := 14) rfl))⟩
theorem cfX6_trace : CFV mX6_trace 0 := ⟨⟨(wR30 _ (List.mem_of_getElem? (i := 23) rfl)), (wR1 _ (List.mem_of_getElem? (i := 2) rfl)), by decide +kernel, by decide +kernel, by decide +kernel⟩, (wR30 _ (List.mem_of_getElem? (i := 21) rfl)), (wR30 _ (List.mem_of_getElem? (i := 22) rfl))⟩
theorem cfX6_isCell : CFV mX6_isCell 1 := ⟨⟨(wR15 _ (List.mem_of_getElem? (i := 14) rfl)), (wR1 _ (List.mem_of_getElem? (i := 2) rfl)), by decide +kernel, by decide +kernel, by decide +kernel⟩, (wR15 _ (List.mem_of_getElem? (i := 12) rfl)), (wR15 _ (List.mem_of_getElem? (i := 13) rfl))⟩
theorem cfX6_isWalker : CFV mX6_isWalker 1 := ⟨⟨(wR16 _ (List.mem_of_getElem? (i := 13) rfl)), (wR1 _ (List.mem_of_getElem? (i := 2) rfl)), by decide +kernel, by decide +kernel, by decide +kernel⟩, (wR16 _ (List.mem_of_getElem? (i := 11) rfl)), (wR16 _ (List.mem_of_getElem? (i := 12) rfl))⟩
theorem cfX6_imageOf : CFV mX6_imageOf 1 := ⟨⟨(wR29 _ (List.mem_of_getElem? (i := 19) rfl)), (wR1 _ (List.mem_of_getElem? (i := 2) rfl)), by decide +kernel, by decide +kernel, by decide +kernel⟩, (wR29 _ (List.mem_of_getElem? (i := 17) rfl)), (wR29 _ (List.mem_of_getElem? (i := 18) rfl))⟩
theorem cfX6_bearing : CFV mX6_bearing 0 := ⟨⟨(wR17 _ (List.mem_of_getElem? (i := 17) rfl)), (wR1 _ (List.mem_of_getElem? (i := 2) rfl)), by decide +kernel, by decide +kernel, by decide +kernel⟩, (wR17 _ (List.mem_of_getElem? (i := 15) rfl)), (wR17 _ (List.mem_of_getElem? (i := 16) rfl))⟩
theorem cfX6_stepsOf : CFV mX6_stepsOf 1 := ⟨⟨(wR17 _ (List.mem_of_getElem? (i := 13) rfl)), (wR1 _ (List.mem_of_getElem? (i := 2) rfl)), by decide +kernel, by decide +kernel, by decide +kernel⟩, (wR17 _ (List.mem_of_getElem? (i := 11) rfl)), (wR17 _ (List.mem_of_getElem? (i := 12) rfl))⟩
theorem cfX6_likedBy : CFV mX6_likedBy 1 := ⟨⟨(wR20 _ (List.mem_of_getElem? (i := 6) rfl)), (wR1 _ (List.mem_of_getElem? (i := 2) rfl)), by decide +kernel, by decide +kernel, by decide +kernel⟩, (wR20 _ (List.mem_of_getElem? (i := 4) rfl)), (wR20 _ (List.mem_of_getElem? (i := 5) rfl))⟩
theorem cfX6_goAndLay : CFV mX6_goAndLay 2 := ⟨⟨(wR18 _ (List.mem_of_getElem? (i := 6) rfl)), (wR1 _ (List.mem_of_getElem? (i := 2) rfl)), by decide +kernel, by decide +kernel, by decide +kernel⟩, (wR18 _ (List.mem_of_getElem? (i := 4) rfl)), (wR18 _ (List.mem_of_getElem? (i := 5) rfl))⟩
theorem cfX6_rateWalker : CFV mX6_rateWalker 1 := ⟨⟨(wR27 _ (List.mem_of_getElem? (i := 22) rfl)), (wR1 _ (List.mem_of_getElem? (i := 2) rfl)), by decide +kernel, by decide +kernel, by decide +kernel⟩, (wR27 _ (List.mem_of_getElem? (i := 20) rfl)), (wR27 _ (List.mem_of_getElem? (i := 21) rfl))⟩
theorem cfX6_ratePilgrim : CFV mX6_ratePilgrim 1 := ⟨⟨(wR28 _ (List.mem_of_getElem? (i := 3) rfl)), (wR1 _ (List.mem_of_getElem? (i := 2) rfl)), by decide +kernel, by decide +kernel, by decide +kernel⟩, (wR28 _ (List.mem_of_getElem? (i := 1) rfl)), (wR28 _ (List.mem_of_getElem? (i := 2) rfl))⟩
theorem cfX6_rateShepherd : CFV mX6_rateShepherd 1 := ⟨⟨(wR28 _ (List.mem_of_getElem? (i := 8) rfl)), (wR1 _ (List.mem_of_getElem? (i := 2) rfl)), by decide +kernel, by decide +kernel, by decide +kernel⟩, (wR28 _ (List.mem_of_getElem? (i := 6) rfl)), (wR28 _ (List.mem_of_getElem? (i := 7) rfl))⟩
theorem cfX6_rateMonk : CFV mX6_rateMonk 1 := ⟨⟨(wR28 _ (List.mem_of_getElem? (i := 13) rfl)), (wR1 _ (List.mem_of_getElem? (i := 2) rfl)), by decide +kernel, by decide +kernel, by decide +kernel⟩, (wR28 _ (List.mem_of_getElem? (i := 11) rfl)), (wR28 _ (List.mem_of_getElem? (i := 12) rfl))⟩
theorem cfX6_rateThief : CFV mX6_rateThief 1 := ⟨⟨(wR28 _ (List.mem_of_getElem? (i := 18) rfl)), (wR1 _ (List.mem_of_getElem? (i := 2) rfl)), by decide +kernel, by decide +kernel, by decide +kernel⟩, (wR28 _ (List.mem_of_getElem? (i := 16) rfl)), (wR28 _ (List.mem_of_getElem? (i := 17) rfl))⟩
theorem cfX6_rateChild : CFV mX6_rateChild 1 := ⟨⟨(wR28 _ (List.mem_of_getElem? (i := 23) rfl)), (wR1 _ (List.mem_of_getElem? (i := 2) rfl)), by decide +kernel, by decide +kernel, by decide +kernel⟩, (wR28 _ (List.mem_of_getElem? (i := 21) rfl)), (wR28 _ (List.mem_of_getElem? (i := 22) rfl))⟩
theorem cfX6_at : CFS mX6_at 2 := ⟨⟨(wR15 _ (List.mem_of_getElem? (i := 21) rfl)), (wR1 _ (List.mem_of_getElem? (i := 2) rfl)), by decide +kernel, by decide +kernel, by decide +kernel⟩, (wR15 _ (List.mem_of_getElem? (i := 20) rfl))⟩
theorem cfX6_put : CFS mX6_put 3 := ⟨⟨(wR5 _ (List.mem_of_getElem? (i := 6) rfl)), (wR1 _ (List.mem_of_getElem? (i := 2) rfl)), by decide +kernel, by decide +kernel, by decide +kernel⟩, (wR5 _ (List.mem_of_getElem? (i := 5) rfl))⟩
theorem cfX6_copyRow : CFS mX6_copyRow 2 := ⟨⟨(wR11 _ (List.mem_of_getElem? (i := 19) rfl)), (wR1 _ (List.mem_of_getElem? (i := 2) rfl)), by decide +kernel, by decide +kernel, by decide +kernel⟩, (wR11 _ (List.mem_of_getElem? (i := 18) rfl))⟩
theorem cfX6_has : CFS mX6_has 2 := ⟨⟨(wR12 _ (List.mem_of_getElem? (i := 19) rfl)), (wR1 _ (List.mem_of_getElem? (i := 2) rfl)), by decide +kernel, by decide +kernel, by decide +kernel⟩, (wR12 _ (List.mem_of_getElem? (i := 18) rfl))⟩
theorem cfX7_in : CFS mX7_in 3 := ⟨⟨(wR5 _ (List.mem_of_getElem? (i := 15) rfl)), (wR1 _ (List.mem_of_getElem? (i := 5) rfl)), by decide +kernel, by decide +kernel, by decide +kernel⟩, (wR5 _ (List.mem_of_getElem? (i := 14) rfl))⟩
theorem cfX7_isCell : CFV mX7_isCell 1 := ⟨⟨(wR16 _ (List.mem_of_getElem? (i := 5) rfl)), (wR1 _ (List.mem_of_getElem? (i := 5) rfl)), by decide +kernel, by decide +kernel, by decide +kernel⟩, (wR16 _ (List.mem_of_getElem? (i := 3) rfl)), (wR16 _ (List.mem_of_getElem? (i := 4) rfl))⟩
theorem cfX7_isWalker : CFV mX7_isWalker 1 := ⟨⟨(wR17 _ (List.mem_of_getElem? (i := 1) rfl)), (wR1 _ (List.mem_of_getElem? (i := 5) rfl)), by decide +kernel, by decide +kernel, by decide +kernel⟩, (wR16 _ (List.mem_of_getElem? (i := 23) rfl)), (wR17 _ (List.mem_of_getElem? (i := 0) rfl))⟩
theorem cfX7_type : CFV mX7_type 2 := ⟨⟨(wR5 _ (List.mem_of_getElem? (i := 10) rfl)), (wR1 _ (List.mem_of_getElem? (i := 5) rfl)), by decide +kernel, by decide +kernel, by decide +kernel⟩, (wR5 _ (List.mem_of_getElem? (i := 8) rfl)), (wR5 _ (List.mem_of_getElem? (i := 9) rfl))⟩
theorem cfX7_clear : CFV mX7_clear 0 := ⟨⟨(wR6 _ (List.mem_of_getElem? (i := 3) rfl)), (wR1 _ (List.mem_of_getElem? (i := 5) rfl)), by decide +kernel, by decide +kernel, by decide +kernel⟩, (wR6 _ (List.mem_of_getElem? (i := 1) rfl)), (wR6 _ (List.mem_of_getElem? (i := 2) rfl))⟩
theorem cfX7_byteAt : CFV mX7_byteAt 1 := ⟨⟨(wR13 _ (List.mem_of_getElem? (i := 23) rfl)), (wR1 _ (List.mem_of_getElem? (i := 5) rfl)), by decide +kernel, by decide +kernel, by decide +kernel⟩, (wR13 _ (List.mem_of_getElem? (i := 21) rfl)), (wR13 _ (List.mem_of_getElem? (i := 22) rfl))⟩
theorem cfX7_sortOf : CFS mX7_sortOf 1 := ⟨⟨(wR14 _ (List.mem_of_getElem? (i := 2) rfl)), (wR1 _ (List.mem_of_getElem? (i := 5) rfl)), by decide +kernel, by decide +kernel, by decide +kernel⟩, (wR14 _ (List.mem_of_getElem? (i := 1) rfl))⟩
theorem cfX7_token : CFV mX7_token 0 := ⟨⟨(wR13 _ (List.mem_of_getElem? (i := 18) rfl)), (wR1 _ (List.mem_of_getElem? (i := 5) rfl)), by decide +kernel, by decide +kernel, by decide +kernel⟩, (wR13 _ (List.mem_of_getElem? (i := 16) rfl)), (wR13 _ (List.mem_of_getElem? (i := 17) rfl))⟩
theorem cfX7_verb : CFV mX7_verb 0 := ⟨⟨(wR14 _ (List.mem_of_getElem? (i := 6) rfl)), (wR1 _ (List.mem_of_getElem? (i := 5) rfl)), by decide +kernel, by decide +kernel, by decide +kernel⟩, (wR14 _ (List.mem_of_getElem? (i := 4) rfl)), (wR14 _ (List.mem_of_getElem? (i := 5) rfl))⟩
theorem cfX7_number : CFV mX7_number 1 := ⟨⟨(wR14 _ (List.mem_of_getElem? (i := 22) rfl)), (wR1 _ (List.mem_of_getElem? (i := 5) rfl)), by decide +kernel, by decide +kernel, by decide +kernel⟩, (wR14 _ (List.mem_of_getElem? (i := 20) rfl)), (wR14 _ (List.mem_of_getElem? (i := 21) rfl))⟩
theorem cfX7_readsRow : CFV mX7_readsRow 0 := ⟨⟨(wR14 _ (List.mem_of_getElem? (i := 14) rfl)), (wR1 _ (List.mem_of_getElem? (i := 5) rfl)), by decide +kernel, by decide +kernel, by decide +kernel⟩, (wR14 _ (List.mem_of_getElem? (i := 12) rfl)), (wR14 _ (List.mem_of_getElem? (i := 13) rfl))⟩
theorem cfX7_readsWalker : CFV mX7_readsWalker 0 := ⟨⟨(wR14 _ (List.mem_of_getElem? (i := 18) rfl)), (wR1 _ (List.mem_of_getElem? (i := 5) rfl)), by decide +kernel, by decide +kernel, by decide +kernel⟩, (wR14 _ (List.mem_of_getElem? (i := 16) rfl)), (wR14 _ (List.mem_of_getElem? (i := 17) rfl))⟩
theorem cfX7_readsSink : CFV mX7_readsSink 0 := ⟨⟨(wR15 _ (List.mem_of_getElem? (i := 2) rfl)), (wR1 _ (List.mem_of_getElem? (i := 5) rfl)), by decide +kernel, by decide +kernel, by decide +kernel⟩, (wR15 _ (List.mem_of_getElem? (i := 0) rfl)), (wR15 _ (List.mem_of_getElem? (i := 1) rfl))⟩
theorem cfX7_reads : CFV mX7_reads 0 := ⟨⟨(wR13 _ (List.mem_of_getElem? (i := 12) rfl)), (wR1 _ (List.mem_of_getElem? (i := 5) rfl)), by decide +kernel, by decide +kernel, by decide +kernel⟩, (wR13 _ (List.mem_of_getElem? (i := 10) rfl)), (wR13 _ (List.mem_of_getElem? (i := 11) rfl))⟩
theorem cfX7_begins : CFV mX7_begins 0 := ⟨⟨(wR15 _ (List.mem_of_getElem? (i := 6) rfl)), (wR1 _ (List.mem_of_getElem? (i := 5) rfl)), by decide +kernel, by decide +kernel, by decide +kernel⟩, (wR15 _ (List.mem_of_getElem? (i := 4) rfl)), (wR15 _ (List.mem_of_getElem? (i := 5) rfl))⟩
theorem cfX7_moor : CFV mX7_moor 0 := ⟨⟨(wR12 _ (List.mem_of_getElem? (i := 23) rfl)), (wR1 _ (List.mem_of_getElem? (i := 5) rfl)), by decide +kernel, by decide +kernel, by decide +kernel⟩, (wR12 _ (List.mem_of_getElem? (i := 21) rfl)), (wR12 _ (List.mem_of_getElem? (i := 22) rfl))⟩
theorem cfX7_cell : CFV mX7_cell 2 := ⟨⟨(wR16 _ (List.mem_of_getElem? (i := 1) rfl)), (wR1 _ (List.mem_of_getElem? (i := 5) rfl)), by decide +kernel, by decide +kernel, by decide +kernel⟩, (wR15 _ (List.mem_of_getElem? (i := 23) rfl)), (wR16 _ (List.mem_of_getElem? (i := 0) rfl))⟩
theorem cfX7_laidBy : CFV mX7_laidBy 1 := ⟨⟨(wR17 _ (List.mem_of_getElem? (i := 5) rfl)), (wR1 _ (List.mem_of_getElem? (i := 5) rfl)), by decide +kernel, by decide +kernel, by decide +kernel⟩, (wR17 _ (List.mem_of_getElem? (i := 3) rfl)), (wR17 _ (List.mem_of_getElem? (i := 4) rfl))⟩
theorem cfX7_walker : CFV mX7_walker 2 := ⟨⟨(wR16 _ (List.mem_of_getElem? (i := 21) rfl)), (wR1 _ (List.mem_of_getElem? (i := 5) rfl)), by decide +kernel, by decide +kernel, by decide +kernel⟩, (wR16 _ (List.mem_of_getElem? (i := 19) rfl)), (wR16 _ (List.mem_of_getElem? (i := 20) rfl))⟩
theorem cfX7_apartBy : CFS mX7_apartBy 2 := ⟨⟨(wR19 _ (List.mem_of_getElem? (i := 14) rfl)), (wR1 _ (List.mem_of_getElem? (i := 5) rfl)), by decide +kernel, by decide +kernel, by decide +kernel⟩, (wR19 _ (List.mem_of_getElem? (i := 13) rfl))⟩
theorem cfX7_isStep : CFV mX7_isStep 2 := ⟨⟨(wR19 _ (List.mem_of_getElem? (i := 11) rfl)), (wR1 _ (List.mem_of_getElem? (i := 5) rfl)), by decide +kernel, by decide +kernel, by decide +kernel⟩, (wR19 _ (List.mem_of_getElem? (i := 9) rfl)), (wR19 _ (List.mem_of_getElem? (i := 10) rfl))⟩
theorem cfX7_measures : CFV mX7_measures 1 := ⟨⟨(wR19 _ (List.mem_of_getElem? (i := 7) rfl)), (wR1 _ (List.mem_of_getElem? (i := 5) rfl)), by decide +kernel, by decide +kernel, by decide +kernel⟩, (wR19 _ (List.mem_of_getElem? (i := 5) rfl)), (wR19 _ (List.mem_of_getElem? (i := 6) rfl))⟩
theorem cfX7_onward : CFV mX7_onward 1 := ⟨⟨(wR19 _ (List.mem_of_getElem? (i := 22) rfl)), (wR1 _ (List.mem_of_getElem? (i := 5) rfl)), by decide +kernel, by decide +kernel, by decide +kernel⟩, (wR19 _ (List.mem_of_getElem? (i := 20) rfl)), (wR19 _ (List.mem_of_getElem? (i := 21) rfl))⟩
theorem cfX7_stepsOf : CFV mX7_stepsOf 2 := ⟨⟨(wR19 _ (List.mem_of_getElem? (i := 3) rfl)), (wR1 _ (List.mem_of_getElem? (i := 5) rfl)), by decide +kernel, by decide +kernel, by decide +kernel⟩, (wR19 _ (List.mem_of_getElem? (i := 1) rfl)), (wR19 _ (List.mem_of_getElem? (i := 2) rfl))⟩
theorem cfX7_passesAndLays : CFV mX7_passesAndLays 2 := ⟨⟨(wR19 _ (List.mem_of_getElem? (i := 18) rfl)), (wR1 _ (List.mem_of_getElem? (i := 5) rfl)), by decide +kernel, by decide +kernel, by decide +kernel⟩, (wR19 _ (List.mem_of_getElem? (i := 16) rfl)), (wR19 _ (List.mem_of_getElem? (i := 17) rfl))⟩
theorem cfX7_passes : CFV mX7_passes 2 := ⟨⟨(wR18 _ (List.mem_of_getElem? (i := 23) rfl)), (wR1 _ (List.mem_of_getElem? (i := 5) rfl)), by decide +kernel, by decide +kernel, by decide +kernel⟩, (wR18 _ (List.mem_of_getElem? (i := 21) rfl)), (wR18 _ (List.mem_of_getElem? (i := 22) rfl))⟩
theorem cfX7_likesOf : CFV mX7_likesOf 1 := ⟨⟨(wR20 _ (List.mem_of_getElem? (i := 19) rfl)), (wR1 _ (List.mem_of_getElem? (i := 5) rfl)), by decide +kernel, by decide +kernel, by decide +kernel⟩, (wR20 _ (List.mem_of_getElem? (i := 17) rfl)), (wR20 _ (List.mem_of_getElem? (i := 18) rfl))⟩
theorem cfX7_days : CFV mX7_days 1 := ⟨⟨(wR20 _ (List.mem_of_getElem? (i := 15) rfl)), (wR1 _ (List.mem_of_getElem? (i := 5) rfl)), by decide +kernel, by decide +kernel, by decide +kernel⟩, (wR20 _ (List.mem_of_getElem? (i := 13) rfl)), (wR20 _ (List.mem_of_getElem? (i := 14) rfl))⟩
theorem cfX7_passedInAll : CFV mX7_passedInAll 0 := ⟨⟨(wR21 _ (List.mem_of_getElem? (i := 22) rfl)), (wR1 _ (List.mem_of_getElem? (i := 5) rfl)), by decide +kernel, by decide +kernel, by decide +kernel⟩, (wR21 _ (List.mem_of_getElem? (i := 20) rfl)), (wR21 _ (List.mem_of_getElem? (i := 21) rfl))⟩
theorem cfX7_many : CFV mX7_many 1 := ⟨⟨(wR21 _ (List.mem_of_getElem? (i := 18) rfl)), (wR1 _ (List.mem_of_getElem? (i := 5) rfl)), by decide +kernel, by decide +kernel, by decide +kernel⟩, (wR21 _ (List.mem_of_getElem? (i := 16) rfl)), (wR21 _ (List.mem_of_getElem? (i := 17) rfl))⟩
theorem cfX7_now : CFV mX7_now 1 := ⟨⟨(wR21 _ (List.mem_of_getElem? (i := 14) rfl)), (wR1 _ (List.mem_of_getElem? (i := 5) rfl)), by decide +kernel, by decide +kernel, by decide +kernel⟩, (wR21 _ (List.mem_of_getElem? (i := 12) rfl)), (wR21 _ (List.mem_of_getElem? (i := 13) rfl))⟩
theorem cfX7_anew : CFV mX7_anew 0 := ⟨⟨(wR22 _ (List.mem_of_getElem? (i := 6) rfl)), (wR1 _ (List.mem_of_getElem? (i := 5) rfl)), by decide +kernel, by decide +kernel, by decide +kernel⟩, (wR22 _ (List.mem_of_getElem? (i := 4) rfl)), (wR22 _ (List.mem_of_getElem? (i := 5) rfl))⟩
theorem cfX7_steps : CFV mX7_steps 2 := ⟨⟨(wR22 _ (List.mem_of_getElem? (i := 14) rfl)), (wR1 _ (List.mem_of_getElem? (i := 5) rfl)), by decide +kernel, by decide +kernel, by decide +kernel⟩, (wR22 _ (List.mem_of_getElem? (i := 12) rfl)), (wR22 _ (List.mem_of_getElem? (i := 13) rfl))⟩
theorem cfX7_way : CFV mX7_way 3 := ⟨⟨(wR22 _ (List.mem_of_getElem? (i := 22) rfl)), (wR1 _ (List.mem_of_getElem? (i := 5) rfl)), by decide +kernel, by decide +kernel, by decide +kernel⟩, (wR22 _ (List.mem_of_getElem? (i := 20) rfl)), (wR22 _ (List.mem_of_getElem? (i := 21) rfl))⟩
theorem cfX7_costs : CFV mX7_costs 2 := ⟨⟨(wR23 _ (List.mem_of_getElem? (i := 18) rfl)), (wR1 _ (List.mem_of_getElem? (i := 5) rfl)), by decide +kernel, by decide +kernel, by decide +kernel⟩, (wR23 _ (List.mem_of_getElem? (i := 16) rfl)), (wR23 _ (List.mem_of_getElem? (i := 17) rfl))⟩
theorem cfX7_stones : CFV mX7_stones 2 := ⟨⟨(wR23 _ (List.mem_of_getElem? (i := 14) rfl)), (wR1 _ (List.mem_of_getElem? (i := 5) rfl)), by decide +kernel, by decide +kernel, by decide +kernel⟩, (wR23 _ (List.mem_of_getElem? (i := 12) rfl)), (wR23 _ (List.mem_of_getElem? (i := 13) rfl))⟩
theorem cfX7_bearing : CFV mX7_bearing 0 := ⟨⟨(wR25 _ (List.mem_of_getElem? (i := 8) rfl)), (wR1 _ (List.mem_of_getElem? (i := 5) rfl)), by decide +kernel, by decide +kernel, by decide +kernel⟩, (wR25 _ (List.mem_of_getElem? (i := 6) rfl)), (wR25 _ (List.mem_of_getElem? (i := 7) rfl))⟩
theorem cfX7_listsBogs : CFV mX7_listsBogs 0 := ⟨⟨(wR24 _ (List.mem_of_getElem? (i := 16) rfl)), (wR1 _ (List.mem_of_getElem? (i := 5) rfl)), by decide +kernel, by decide +kernel, by decide +kernel⟩, (wR24 _ (List.mem_of_getElem? (i := 14) rfl)), (wR24 _ (List.mem_of_getElem? (i := 15) rfl))⟩
theorem cfX7_chosen : CFV mX7_chosen 2 := ⟨⟨(wR25 _ (List.mem_of_getElem? (i := 4) rfl)), (wR1 _ (List.mem_of_getElem? (i := 5) rfl)), by decide +kernel, by decide +kernel, by decide +kernel⟩, (wR25 _ (List.mem_of_getElem? (i := 2) rfl)), (wR25 _ (List.mem_of_getElem? (i := 3) rfl))⟩
theorem cfX7_nears : CFV mX7_nears 0 := ⟨⟨(wR24 _ (List.mem_of_getElem? (i := 20) rfl)), (wR1 _ (List.mem_of_getElem? (i := 5) rfl)), by decide +kernel, by decide +kernel, by decide +kernel⟩, (wR24 _ (List.mem_of_getElem? (i := 18) rfl)), (wR24 _ (List.mem_of_getElem? (i := 19) rfl))⟩
theorem cfX7_reached : CFV mX7_reached 2 := ⟨⟨(wR25 _ (List.mem_of_getElem? (i := 15) rfl)), (wR1 _ (List.mem_of_getElem? (i := 5) rfl)), by decide +kernel, by decide +kernel, by decide +kernel⟩, (wR25 _ (List.mem_of_getElem? (i := 13) rfl)), (wR25 _ (List.mem_of_getElem? (i := 14) rfl))⟩
theorem cfX7_ones : CFS mX7_ones 1 := ⟨⟨(wR25 _ (List.mem_of_getElem? (i := 11) rfl)), (wR1 _ (List.mem_of_getElem? (i := 5) rfl)), by decide +kernel, by decide +kernel, by decide +kernel⟩, (wR25 _ (List.mem_of_getElem? (i := 10) rfl))⟩
theorem cfX7_joins : CFV mX7_joins 2 := ⟨⟨(wR25 _ (List.mem_of_getElem? (i := 0) rfl)), (wR1 _ (List.mem_of_getElem? (i := 5) rfl)), by decide +kernel, by decide +kernel, by decide +kernel⟩, (wR24 _ (List.mem_of_getElem? (i := 22) rfl)), (wR24 _ (List.mem_of_getElem? (i := 23) rfl))⟩
theorem cfX7_joined : CFV mX7_joined 2 := ⟨⟨(wR24 _ (List.mem_of_getElem? (i := 12) rfl)), (wR1 _ (List.mem_of_getElem? (i := 5) rfl)), by decide +kernel, by decide +kernel, by decide +kernel⟩, (wR24 _ (List.mem_of_getElem? (i := 10) rfl)), (wR24 _ (List.mem_of_getElem? (i := 11) rfl))⟩
theorem cfX7_likes : CFV mX7_likes 1 := ⟨⟨(wR25 _ (List.mem_of_getElem? (i := 23) rfl)), (wR1 _ (List.mem_of_getElem? (i := 5) rfl)), by decide +kernel, by decide +kernel, by decide +kernel⟩, (wR25 _ (List.mem_of_getElem? (i := 21) rfl)), (wR25 _ (List.mem_of_getElem? (i := 22) rfl))⟩
theorem cfX7_byTurns : CFV mX7_byTurns 2 := ⟨⟨(wR26 _ (List.mem_of_getElem? (i := 23) rfl)), (wR1 _ (List.mem_of_getElem? (i := 5) rfl)), by decide +kernel, by decide +kernel, by decide +kernel⟩, (wR26 _ (List.mem_of_getElem? (i := 21) rfl)), (wR26 _ (List.mem_of_getElem? (i := 22) rfl))⟩
theorem cfX7_apart : CFV mX7_apart 2 := ⟨⟨(wR27 _ (List.mem_of_getElem? (i := 13) rfl)), (wR1 _ (List.mem_of_getElem? (i := 5) rfl)), by decide +kernel, by decide +kernel, by decide +kernel⟩, (wR27 _ (List.mem_of_getElem? (i := 11) rfl)), (wR27 _ (List.mem_of_getElem? (i := 12) rfl))⟩
theorem cfX7_rate : CFV mX7_rate 2 := ⟨⟨(wR29 _ (List.mem_of_getElem? (i := 4) rfl)), (wR1 _ (List.mem_of_getElem? (i := 5) rfl)), by decide +kernel, by decide +kernel, by decide +kernel⟩, (wR29 _ (List.mem_of_getElem? (i := 2) rfl)), (wR29 _ (List.mem_of_getElem? (i := 3) rfl))⟩
theorem cfX7_keep : CFV mX7_keep 1 := ⟨⟨(wR30 _ (List.mem_of_getElem? (i := 3) rfl)), (wR1 _ (List.mem_of_getElem? (i := 5) rfl)), by decide +kernel, by decide +kernel, by decide +kernel⟩, (wR30 _ (List.mem_of_getElem? (i := 1) rfl)), (wR30 _ (List.mem_of_getElem? (i := 2) rfl))⟩
theorem cfX7_back : CFV mX7_back 1 := ⟨⟨(wR30 _ (List.mem_of_getElem? (i := 11) rfl)), (wR1 _ (List.mem_of_getElem? (i := 5) rfl)), by decide +kernel, by decide +kernel, by decide +kernel⟩, (wR30 _ (List.mem_of_getElem? (i := 9) rfl)), (wR30 _ (List.mem_of_getElem? (i := 10) rfl))⟩
theorem cfX7_count : CFV mX7_count 1 := ⟨⟨(wR30 _ (List.mem_of_getElem? (i := 19) rfl)), (wR1 _ (List.mem_of_getElem? (i := 5) rfl)), by decide +kernel, by decide +kernel, by decide +kernel⟩, (wR30 _ (List.mem_of_getElem? (i := 17) rfl)), (wR30 _ (List.mem_of_getElem? (i := 18) rfl))⟩
theorem cfX7_trace : CFV mX7_trace 0 := ⟨⟨(wR31 _ (List.mem_of_getElem? (i := 3) rfl)), (wR1 _ (List.mem_of_getElem? (i := 5) rfl)), by decide +kernel, by decide +kernel, by decide +kernel⟩, (wR31 _ (List.mem_of_getElem? (i := 1) rfl)), (wR31 _ (List.mem_of_getElem? (i := 2) rfl))⟩
theorem cfJ6_bitCount_0f7a4 : CFS mJ6_bitCount_0f7a4 1 := ⟨⟨(wR21 _ (List.mem_of_getElem? (i := 3) rfl)), (wR21 _ (List.mem_of_getElem? (i := 2) rfl)), by decide +kernel, by decide +kernel, by decide +kernel⟩, (wR21 _ (List.mem_of_getElem? (i := 1) rfl))⟩
theorem cfJ0_length_8abf5 : CFV mJ0_length_8abf5 0 := ⟨⟨(wR8 _ (List.mem_of_getElem? (i := 9) rfl)), (wR8 _ (List.mem_of_getElem? (i := 8) rfl)), by decide +kernel, by decide +kernel, by decide +kernel⟩, (wR8 _ (List.mem_of_getElem? (i := 6) rfl)), (wR8 _ (List.mem_of_getElem? (i := 7) rfl))⟩
theorem cfJ0_charAt_5068e : CFV mJ0_charAt_5068e 1 := ⟨⟨(wR8 _ (List.mem_of_getElem? (i := 20) rfl)), (wR8 _ (List.mem_of_getElem? (i := 8) rfl)), by decide +kernel, by decide +kernel, by decide +kernel⟩, (wR8 _ (List.mem_of_getElem? (i := 18) rfl)), (wR8 _ (List.mem_of_getElem? (i := 19) rfl))⟩
theorem cfJ0_coder_7d493 : CFV mJ0_coder_7d493 0 := ⟨⟨(wR8 _ (List.mem_of_getElem? (i := 14) rfl)), (wR8 _ (List.mem_of_getElem? (i := 8) rfl)), by decide +kernel, by decide +kernel, by decide +kernel⟩, (wR8 _ (List.mem_of_getElem? (i := 12) rfl)), (wR8 _ (List.mem_of_getElem? (i := 13) rfl))⟩
theorem cfJ0_isLatin1_aae02 : CFV mJ0_isLatin1_aae02 0 := ⟨⟨(wR9 _ (List.mem_of_getElem? (i := 0) rfl)), (wR8 _ (List.mem_of_getElem? (i := 8) rfl)), by decide +kernel, by decide +kernel, by decide +kernel⟩, (wR8 _ (List.mem_of_getElem? (i := 22) rfl)), (wR8 _ (List.mem_of_getElem? (i := 23) rfl))⟩
theorem cfJ0_checkIndex_df160 : CFS mJ0_checkIndex_df160 2 := ⟨⟨(wR9 _ (List.mem_of_getElem? (i := 7) rfl)), (wR8 _ (List.mem_of_getElem? (i := 8) rfl)), by decide +kernel, by decide +kernel, by decide +kernel⟩, (wR9 _ (List.mem_of_getElem? (i := 6) rfl))⟩
theorem cfJ1_charAt_3b067 : CFS mJ1_charAt_3b067 2 := ⟨⟨(wR9 _ (List.mem_of_getElem? (i := 4) rfl)), (wR9 _ (List.mem_of_getElem? (i := 3) rfl)), by decide +kernel, by decide +kernel, by decide +kernel⟩, (wR9 _ (List.mem_of_getElem? (i := 2) rfl))⟩
theorem cfJ2_getChar_3b067 : CFS mJ2_getChar_3b067 2 := ⟨⟨(wR10 _ (List.mem_of_getElem? (i := 2) rfl)), (wR9 _ (List.mem_of_getElem? (i := 15) rfl)), by decide +kernel, by decide +kernel, by decide +kernel⟩, (wR10 _ (List.mem_of_getElem? (i := 1) rfl))⟩
theorem cfJ2_length_9d52b : CFS mJ2_length_9d52b 1 := ⟨⟨(wR9 _ (List.mem_of_getElem? (i := 22) rfl)), (wR9 _ (List.mem_of_getElem? (i := 15) rfl)), by decide +kernel, by decide +kernel, by decide +kernel⟩, (wR9 _ (List.mem_of_getElem? (i := 21) rfl))⟩
theorem cfJ2_charAt_3b067 : CFS mJ2_charAt_3b067 2 := ⟨⟨(wR9 _ (List.mem_of_getElem? (i := 16) rfl)), (wR9 _ (List.mem_of_getElem? (i := 15) rfl)), by decide +kernel, by decide +kernel, by decide +kernel⟩, (wR9 _ (List.mem_of_getElem? (i := 14) rfl))⟩
theorem cfJ2_checkIndex_2214a : CFS mJ2_checkIndex_2214a 2 := ⟨⟨(wR9 _ (List.mem_of_getElem? (i := 19) rfl)), (wR9 _ (List.mem_of_getElem? (i := 15) rfl)), by decide +kernel, by decide +kernel, by decide +kernel⟩, (wR9 _ (List.mem_of_getElem? (i := 18) rfl))⟩
theorem cfJ3_checkIndex_8e157 : CFS mJ3_checkIndex_8e157 3 := ⟨⟨(wR9 _ (List.mem_of_getElem? (i := 12) rfl)), (wR9 _ (List.mem_of_getElem? (i := 11) rfl)), by decide +kernel, by decide +kernel, by decide +kernel⟩, (wR9 _ (List.mem_of_getElem? (i := 10) rfl))⟩
theorem mlJ0_335 : ML RJ0 335 yJ0_coder_7d493 := Or.inl (wR8 _ (List.mem_of_getElem? (i := 11) rfl))
theorem mlJ0_492 : ML RJ0 492 yJ0_isLatin1_aae02 := Or.inl (wR8 _ (List.mem_of_getElem? (i := 21) rfl))
theorem mlJ0_495 : ML RJ0 495 yJ1_charAt_3b067 := Or.inl (wR9 _ (List.mem_of_getElem? (i := 1) rfl))
theorem mlJ0_498 : ML RJ0 498 yJ2_charAt_3b067 := Or.inl (wR9 _ (List.mem_of_getElem? (i := 13) rfl))
theorem mlJ0_1059 : ML RJ0 1059 yJ3_checkIndex_8e157 := Or.inl (wR9 _ (List.mem_of_getElem? (i := 9) rfl))
theorem mlJ1_9 : ML RJ1 9 yJ0_checkIndex_df160 := Or.inl (wR9 _ (List.mem_of_getElem? (i := 5) rfl))
theorem mlJ2_48 : ML RJ2 48 yJ2_length_9d52b := Or.inl (wR9 _ (List.mem_of_getElem? (i := 20) rfl))
theorem mlJ2_67 : ML RJ2 67 yJ2_checkIndex_2214a := Or.inl (wR9 _ (List.mem_of_getElem? (i := 17) rfl))
theorem mlJ2_71 : ML RJ2 71 yJ2_getChar_3b067 := Or.inl (wR10 _ (List.mem_of_getElem? (i := 0) rfl))
theorem mlJ2_414 : ML RJ2 414 yJ0_checkIndex_df160 := Or.inl (wR9 _ (List.mem_of_getElem? (i := 23) rfl))
theorem mlX0_3 : Cond.methodLink RX0 3 objectInit ∈ wsL_law := (wR3 _ (List.mem_of_getElem? (i := 23) rfl))
theorem mlX0_32 : ML RX0 32 yX6_has := Or.inr (List.mem_of_getElem? (i := 28) rfl)
theorem mlX0_39 : ML RX0 39 yX6_put := Or.inr (List.mem_of_getElem? (i := 29) rfl)
theorem mlX0_43 : ML RX0 43 yX6_copyRow := Or.inr (List.mem_of_getElem? (i := 35) rfl)
theorem mlX0_47 : ML RX0 47 yX6_at := Or.inr (List.mem_of_getElem? (i := 30) rfl)
theorem mlX1_3 : Cond.methodLink RX1 3 objectInit ∈ wsL_law := (wR3 _ (List.mem_of_getElem? (i := 11) rfl))
theorem mlX1_11 : ML RX1 11 yX5_init := Or.inr (List.mem_of_getElem? (i := 24) rfl)
theorem mlX1_22 : ML RX1 22 yX6_has := Or.inr (List.mem_of_getElem? (i := 32) rfl)
theorem mlX1_26 : ML RX1 26 yX5_fewestSteps := Or.inl (wR20 _ (List.mem_of_getElem? (i := 11) rfl))
theorem mlX1_30 : ML RX1 30 yJ6_bitCount_0f7a4 := Or.inl (wR24 _ (List.mem_of_getElem? (i := 3) rfl))
theorem mlX1_36 : ML RX1 36 yX1_joinsAll := Or.inl (wR24 _ (List.mem_of_getElem? (i := 4) rfl))
theorem mlX1_39 : ML RX1 39 yX5_spread := Or.inl (wR24 _ (List.mem_of_getElem? (i := 8) rfl))
theorem mlX1_43 : ML RX1 43 yX5_joins := Or.inl (wR26 _ (List.mem_of_getElem? (i := 8) rfl))
theorem mlX1_47 : ML RX1 47 yX1_bestOfNext := Or.inl (wR26 _ (List.mem_of_getElem? (i := 12) rfl))
theorem mlX1_50 : ML RX1 50 yX6_put := Or.inr (List.mem_of_getElem? (i := 34) rfl)
theorem mlX1_54 : ML RX1 54 yX6_at := Or.inr (List.mem_of_getElem? (i := 33) rfl)
theorem mlX1_58 : Cond.methodLink RX1 58 Lib.Math.min.name ∈ wsL_law := (wR26 _ (List.mem_of_getElem? (i := 16) rfl))
theorem mlX1_63 : Cond.methodLink RX1 63 Lib.Math.max.name ∈ wsL_law := (wR26 _ (List.mem_of_getElem? (i := 17) rfl))
theorem mlX1_66 : ML RX1 66 yX5_near := Or.inl (wR27 _ (List.mem_of_getElem? (i := 9) rfl))
theorem mlX2_3 : Cond.methodLink RX2 3 objectInit ∈ wsL_law := (wR2 _ (List.mem_of_getElem? (i := 14) rfl))
theorem mlX2_11 : ML RX2 11 yX3_init := Or.inl (wR2 _ (List.mem_of_getElem? (i := 19) rfl))
theorem mlX2_18 : ML RX2 18 yX4_empty := Or.inl (wR6 _ (List.mem_of_getElem? (i := 15) rfl))
theorem mlX2_27 : ML RX2 27 yX2_toNextToken := Or.inl (wR7 _ (List.mem_of_getElem? (i := 3) rfl))
theorem mlX2_33 : ML RX2 33 yX2_readItem := Or.inl (wR7 _ (List.mem_of_getElem? (i := 21) rfl))
theorem mlX2_42 : ML RX2 42 yX2_isWord := Or.inl (wR8 _ (List.mem_of_getElem? (i := 1) rfl))
theorem mlX2_46 : ML RX2 46 yX2_readRow := Or.inl (wR10 _ (List.mem_of_getElem? (i := 6) rfl))
theorem mlX2_51 : ML RX2 51 yX2_readWalker := Or.inl (wR10 _ (List.mem_of_getElem? (i := 22) rfl))
theorem mlX2_56 : ML RX2 56 yX2_readSink := Or.inl (wR11 _ (List.mem_of_getElem? (i := 10) rfl))
theorem mlX2_59 : ML RX2 59 yX4_takesRow := Or.inl (wR10 _ (List.mem_of_getElem? (i := 10) rfl))
theorem mlX2_63 : ML RX2 63 yX4_beginRow := Or.inl (wR10 _ (List.mem_of_getElem? (i := 14) rfl))
theorem mlX2_67 : ML RX2 67 yX3_byteAt := Or.inl (wR7 _ (List.mem_of_getElem? (i := 15) rfl))
theorem mlX2_71 : ML RX2 71 yX4_addCell := Or.inl (wR10 _ (List.mem_of_getElem? (i := 18) rfl))
theorem mlX2_80 : ML RX2 80 yX2_isNumberTo := Or.inl (wR11 _ (List.mem_of_getElem? (i := 2) rfl))
theorem mlX2_86 : ML RX2 86 yX4_addWalker := Or.inl (wR11 _ (List.mem_of_getElem? (i := 6) rfl))
theorem mlX2_96 : ML RX2 96 yJ0_length_8abf5 := Or.inl (wR8 _ (List.mem_of_getElem? (i := 5) rfl))
theorem mlX2_102 : ML RX2 102 yJ0_charAt_5068e := Or.inl (wR8 _ (List.mem_of_getElem? (i := 17) rfl))
theorem mlX2_106 : ML RX2 106 yX3_behindRun := Or.inl (wR7 _ (List.mem_of_getElem? (i := 7) rfl))
theorem mlX2_110 : ML RX2 110 yX2_sortOfDigits := Or.inl (wR7 _ (List.mem_of_getElem? (i := 16) rfl))
theorem mlX3_3 : Cond.methodLink RX3 3 objectInit ∈ wsL_law := (wR2 _ (List.mem_of_getElem? (i := 22) rfl))
theorem mlX3_19 : ML RX3 19 yX6_put := Or.inr (List.mem_of_getElem? (i := 25) rfl)
theorem mlX3_23 : ML RX3 23 yX3_byteAt := Or.inl (wR7 _ (List.mem_of_getElem? (i := 11) rfl))
theorem mlX4_3 : Cond.methodLink RX4 3 objectInit ∈ wsL_law := (wR3 _ (List.mem_of_getElem? (i := 5) rfl))
theorem mlX4_44 : ML RX4 44 yX6_copyRow := Or.inr (List.mem_of_getElem? (i := 27) rfl)
theorem mlX4_48 : ML RX4 48 yX6_put := Or.inr (List.mem_of_getElem? (i := 26) rfl)
theorem mlX5_3 : Cond.methodLink RX5 3 objectInit ∈ wsL_law := (wR3 _ (List.mem_of_getElem? (i := 19) rfl))
theorem mlX5_24 : ML RX5 24 yX5_near := Or.inl (wR17 _ (List.mem_of_getElem? (i := 22) rfl))
theorem mlX5_28 : ML RX5 28 yX6_has := Or.inr (List.mem_of_getElem? (i := 31) rfl)
theorem mlX5_32 : ML RX5 32 yX5_spread := Or.inl (wR23 _ (List.mem_of_getElem? (i := 7) rfl))
theorem mlX5_36 : ML RX5 36 yX5_fewestSteps := Or.inl (wR18 _ (List.mem_of_getElem? (i := 11) rfl))
theorem mlX6_1 : Cond.methodLink RX6 1 objectInit ∈ wsL_law := (wR1 _ (List.mem_of_getElem? (i := 10) rfl))
theorem mlX6_9 : ML RX6 9 yX2_init := Or.inl (wR2 _ (List.mem_of_getElem? (i := 11) rfl))
theorem mlX6_23 : ML RX6 23 yX4_init := Or.inl (wR3 _ (List.mem_of_getElem? (i := 2) rfl))
theorem mlX6_33 : ML RX6 33 yX1_init := Or.inl (wR3 _ (List.mem_of_getElem? (i := 8) rfl))
theorem mlX6_45 : ML RX6 45 yX0_init := Or.inl (wR3 _ (List.mem_of_getElem? (i := 20) rfl))
theorem mlX6_66 : ML RX6 66 yX3_add := Or.inl (wR5 _ (List.mem_of_getElem? (i := 1) rfl))
theorem mlX6_70 : ML RX6 70 yX3_empty := Or.inl (wR5 _ (List.mem_of_getElem? (i := 20) rfl))
theorem mlX6_74 : ML RX6 74 yX2_readInto := Or.inl (wR6 _ (List.mem_of_getElem? (i := 8) rfl))
theorem mlX6_78 : ML RX6 78 yX4_copy := Or.inl (wR11 _ (List.mem_of_getElem? (i := 14) rfl))
theorem mlX6_88 : ML RX6 88 yX5_measure := Or.inl (wR12 _ (List.mem_of_getElem? (i := 4) rfl))
theorem mlX6_94 : ML RX6 94 yX0_beginAsTold := Or.inl (wR12 _ (List.mem_of_getElem? (i := 12) rfl))
theorem mlX6_101 : ML RX6 101 yX6_isCell := Or.inl (wR15 _ (List.mem_of_getElem? (i := 11) rfl))
theorem mlX6_105 : ML RX6 105 yX0_groundOf := Or.inl (wR15 _ (List.mem_of_getElem? (i := 15) rfl))
theorem mlX6_113 : ML RX6 113 yX6_at := Or.inl (wR15 _ (List.mem_of_getElem? (i := 19) rfl))
theorem mlX6_120 : ML RX6 120 yX6_isWalker := Or.inl (wR16 _ (List.mem_of_getElem? (i := 10) rfl))
theorem mlX6_132 : ML RX6 132 yX0_laidBy := Or.inl (wR16 _ (List.mem_of_getElem? (i := 14) rfl))
theorem mlX6_135 : ML RX6 135 yX6_stepsOf := Or.inl (wR17 _ (List.mem_of_getElem? (i := 10) rfl))
theorem mlX6_141 : ML RX6 141 yX6_has := Or.inl (wR18 _ (List.mem_of_getElem? (i := 2) rfl))
theorem mlX6_145 : ML RX6 145 yX6_goAndLay := Or.inl (wR18 _ (List.mem_of_getElem? (i := 3) rfl))
theorem mlX6_152 : ML RX6 152 yX6_likedBy := Or.inl (wR20 _ (List.mem_of_getElem? (i := 3) rfl))
theorem mlX6_161 : ML RX6 161 yJ6_bitCount_0f7a4 := Or.inl (wR21 _ (List.mem_of_getElem? (i := 0) rfl))
theorem mlX6_166 : ML RX6 166 yX0_passedByAll := Or.inl (wR21 _ (List.mem_of_getElem? (i := 7) rfl))
theorem mlX6_169 : ML RX6 169 yX6_bearing := Or.inl (wR17 _ (List.mem_of_getElem? (i := 14) rfl))
theorem mlX6_172 : ML RX6 172 yX5_fewestSteps := Or.inl (wR17 _ (List.mem_of_getElem? (i := 18) rfl))
theorem mlX6_176 : ML RX6 176 yX5_nextCell := Or.inl (wR18 _ (List.mem_of_getElem? (i := 7) rfl))
theorem mlX6_179 : ML RX6 179 yX5_fewestStones := Or.inl (wR23 _ (List.mem_of_getElem? (i := 3) rfl))
theorem mlX6_182 : ML RX6 182 yX1_leastJoining := Or.inl (wR23 _ (List.mem_of_getElem? (i := 23) rfl))
theorem mlX6_185 : ML RX6 185 yX1_laidByTurns := Or.inl (wR26 _ (List.mem_of_getElem? (i := 4) rfl))
theorem mlX6_189 : ML RX6 189 yX5_near := Or.inl (wR27 _ (List.mem_of_getElem? (i := 4) rfl))
theorem mlX6_192 : ML RX6 192 yX1_fewestApart := Or.inl (wR27 _ (List.mem_of_getElem? (i := 5) rfl))
theorem mlX6_196 : ML RX6 196 yX6_rateWalker := Or.inl (wR27 _ (List.mem_of_getElem? (i := 19) rfl))
theorem mlX6_199 : ML RX6 199 yX6_ratePilgrim := Or.inl (wR28 _ (List.mem_of_getElem? (i := 0) rfl))
theorem mlX6_202 : ML RX6 202 yX6_rateShepherd := Or.inl (wR28 _ (List.mem_of_getElem? (i := 5) rfl))
theorem mlX6_205 : ML RX6 205 yX6_rateMonk := Or.inl (wR28 _ (List.mem_of_getElem? (i := 10) rfl))
theorem mlX6_208 : ML RX6 208 yX6_rateThief := Or.inl (wR28 _ (List.mem_of_getElem? (i := 15) rfl))
theorem mlX6_211 : ML RX6 211 yX6_rateChild := Or.inl (wR28 _ (List.mem_of_getElem? (i := 20) rfl))
theorem mlX6_214 : ML RX6 214 yX6_imageOf := Or.inl (wR29 _ (List.mem_of_getElem? (i := 16) rfl))
theorem mlX6_218 : ML RX6 218 yX0_copy := Or.inl (wR29 _ (List.mem_of_getElem? (i := 20) rfl))
theorem mlX6_227 : ML RX6 227 yX1_bestToLay := Or.inl (wR20 _ (List.mem_of_getElem? (i := 7) rfl))
theorem mlX6_230 : ML RX6 230 yX0_stepOn := Or.inl (wR18 _ (List.mem_of_getElem? (i := 12) rfl))
theorem mlX6_233 : ML RX6 233 yX0_lay := Or.inl (wR18 _ (List.mem_of_getElem? (i := 16) rfl))
theorem mlX6_237 : Cond.methodLink RX6 237 Lib.Math.max.name ∈ wsL_law := (wR27 _ (List.mem_of_getElem? (i := 23) rfl))
theorem mlX6_252 : Cond.methodLink RX6 252 Lib.Math.min.name ∈ wsL_law := (wR11 _ (List.mem_of_getElem? (i := 20) rfl))
theorem mlX6_255 : Cond.methodLink RX6 255 arraycopyName ∈ wsL_law := (wR12 _ (List.mem_of_getElem? (i := 0) rfl))
theorem mlX7_1 : Cond.methodLink RX7 1 objectInit ∈ wsL_law := (wR4 _ (List.mem_of_getElem? (i := 6) rfl))
theorem mlX7_57 : ML RX7 57 yX7_in := Or.inl (wR5 _ (List.mem_of_getElem? (i := 13) rfl))
theorem mlX7_72 : ML RX7 72 yX7_byteAt := Or.inl (wR13 _ (List.mem_of_getElem? (i := 20) rfl))
theorem mlX7_79 : ML RX7 79 yX7_sortOf := Or.inl (wR14 _ (List.mem_of_getElem? (i := 0) rfl))
theorem mlX7_96 : ML RX7 96 yX7_token := Or.inl (wR13 _ (List.mem_of_getElem? (i := 15) rfl))
theorem mlX7_108 : ML RX7 108 yX7_number := Or.inl (wR14 _ (List.mem_of_getElem? (i := 19) rfl))
theorem mlX7_114 : ML RX7 114 yX7_verb := Or.inl (wR14 _ (List.mem_of_getElem? (i := 3) rfl))
theorem mlX7_118 : ML RX7 118 yX7_readsRow := Or.inl (wR14 _ (List.mem_of_getElem? (i := 11) rfl))
theorem mlX7_122 : ML RX7 122 yX7_readsWalker := Or.inl (wR14 _ (List.mem_of_getElem? (i := 15) rfl))
theorem mlX7_125 : ML RX7 125 yX7_readsSink := Or.inl (wR14 _ (List.mem_of_getElem? (i := 23) rfl))
theorem mlX7_131 : ML RX7 131 yX7_reads := Or.inl (wR13 _ (List.mem_of_getElem? (i := 9) rfl))
theorem mlX7_134 : ML RX7 134 yX7_begins := Or.inl (wR15 _ (List.mem_of_getElem? (i := 3) rfl))
theorem mlX7_137 : ML RX7 137 yX7_isCell := Or.inl (wR16 _ (List.mem_of_getElem? (i := 2) rfl))
theorem mlX7_141 : ML RX7 141 yX7_isWalker := Or.inl (wR16 _ (List.mem_of_getElem? (i := 22) rfl))
theorem mlX7_144 : ML RX7 144 yX7_laidBy := Or.inl (wR17 _ (List.mem_of_getElem? (i := 2) rfl))
theorem mlX7_147 : ML RX7 147 yX7_apartBy := Or.inl (wR19 _ (List.mem_of_getElem? (i := 12) rfl))
theorem mlX7_151 : ML RX7 151 yX7_isStep := Or.inl (wR19 _ (List.mem_of_getElem? (i := 8) rfl))
theorem mlX7_155 : ML RX7 155 yX7_measures := Or.inl (wR19 _ (List.mem_of_getElem? (i := 4) rfl))
theorem mlX7_159 : ML RX7 159 yX7_stepsOf := Or.inl (wR19 _ (List.mem_of_getElem? (i := 0) rfl))
theorem mlX7_162 : ML RX7 162 yX7_onward := Or.inl (wR19 _ (List.mem_of_getElem? (i := 19) rfl))
theorem mlX7_165 : ML RX7 165 yX7_passesAndLays := Or.inl (wR19 _ (List.mem_of_getElem? (i := 15) rfl))
theorem mlX7_169 : ML RX7 169 yX7_likesOf := Or.inl (wR20 _ (List.mem_of_getElem? (i := 16) rfl))
theorem mlX7_172 : ML RX7 172 yX7_many := Or.inl (wR21 _ (List.mem_of_getElem? (i := 15) rfl))
theorem mlX7_175 : ML RX7 175 yX7_passedInAll := Or.inl (wR21 _ (List.mem_of_getElem? (i := 19) rfl))
theorem mlX7_178 : ML RX7 178 yX7_costs := Or.inl (wR23 _ (List.mem_of_getElem? (i := 15) rfl))
theorem mlX7_181 : ML RX7 181 yX7_chosen := Or.inl (wR25 _ (List.mem_of_getElem? (i := 1) rfl))
theorem mlX7_184 : ML RX7 184 yX7_bearing := Or.inl (wR25 _ (List.mem_of_getElem? (i := 5) rfl))
theorem mlX7_187 : ML RX7 187 yX7_ones := Or.inl (wR25 _ (List.mem_of_getElem? (i := 9) rfl))
theorem mlX7_190 : ML RX7 190 yX7_reached := Or.inl (wR25 _ (List.mem_of_getElem? (i := 12) rfl))
theorem mlX7_193 : ML RX7 193 yX7_listsBogs := Or.inl (wR24 _ (List.mem_of_getElem? (i := 13) rfl))
theorem mlX7_196 : ML RX7 196 yX7_nears := Or.inl (wR24 _ (List.mem_of_getElem? (i := 17) rfl))
theorem mlX7_199 : ML RX7 199 yX7_joins := Or.inl (wR24 _ (List.mem_of_getElem? (i := 21) rfl))
theorem flX0_9 : FL RX0 9 0 2 := ⟨RX0, TX0, 6, rfl, by decide, inlX0, Or.inl (wR4 _ (List.mem_of_getElem? (i := 0) rfl))⟩
theorem flX0_15 : FL RX0 15 0 3 := ⟨RX0, TX0, 6, rfl, by decide, inlX0, Or.inl (wR4 _ (List.mem_of_getElem? (i := 1) rfl))⟩
theorem flX0_18 : FL RX0 18 0 4 := ⟨RX0, TX0, 6, rfl, by decide, inlX0, Or.inl (wR4 _ (List.mem_of_getElem? (i := 2) rfl))⟩
theorem flX0_21 : FL RX0 21 4 3 := ⟨RX4, TX4, 10, rfl, by decide, inlX4, Or.inr (List.mem_of_getElem? (i := 6) rfl)⟩
theorem fpX0_21 : FP RX0 21 4 3 .int := ⟨RX4, TX4, 10, tyX4, rfl, by decide, inlX4, Or.inr (List.mem_of_getElem? (i := 6) rfl), tyX4_ok, nmX4, rfl, by decide +kernel⟩
theorem flX0_27 : FL RX0 27 0 0 := ⟨RX0, TX0, 6, rfl, by decide, inlX0, Or.inl (wR12 _ (List.mem_of_getElem? (i := 16) rfl))⟩
theorem fpX0_27 : FP RX0 27 0 0 .int := ⟨RX0, TX0, 6, tyX0, rfl, by decide, inlX0, Or.inl (wR12 _ (List.mem_of_getElem? (i := 16) rfl)), tyX0_ok, nmX0, rfl, by decide +kernel⟩
theorem flX0_28 : FL RX0 28 4 4 := ⟨RX4, TX4, 10, rfl, by decide, inlX4, Or.inr (List.mem_of_getElem? (i := 7) rfl)⟩
theorem fpX0_28 : FP RX0 28 4 4 .int := ⟨RX4, TX4, 10, tyX4, rfl, by decide, inlX4, Or.inr (List.mem_of_getElem? (i := 7) rfl), tyX4_ok, nmX4, rfl, by decide +kernel⟩
theorem flX0_31 : FL RX0 31 0 1 := ⟨RX0, TX0, 6, rfl, by decide, inlX0, Or.inl (wR12 _ (List.mem_of_getElem? (i := 17) rfl))⟩
theorem fpX0_31 : FP RX0 31 0 1 .int := ⟨RX0, TX0, 6, tyX0, rfl, by decide, inlX0, Or.inl (wR12 _ (List.mem_of_getElem? (i := 17) rfl)), tyX0_ok, nmX0, rfl, by decide +kernel⟩
theorem flX0_36 : FL RX0 36 4 5 := ⟨RX4, TX4, 10, rfl, by decide, inlX4, Or.inr (List.mem_of_getElem? (i := 8) rfl)⟩
theorem fpX0_36 : FP RX0 36 4 5 .int := ⟨RX4, TX4, 10, tyX4, rfl, by decide, inlX4, Or.inr (List.mem_of_getElem? (i := 8) rfl), tyX4_ok, nmX4, rfl, by decide +kernel⟩
theorem flX1_12 : FL RX1 12 1 0 := ⟨RX1, TX1, 2, rfl, by decide, inlX1, Or.inl (wR3 _ (List.mem_of_getElem? (i := 15) rfl))⟩
theorem flX1_18 : FL RX1 18 1 1 := ⟨RX1, TX1, 2, rfl, by decide, inlX1, Or.inl (wR3 _ (List.mem_of_getElem? (i := 16) rfl))⟩
theorem flX2_12 : FL RX2 12 2 0 := ⟨RX2, TX2, 5, rfl, by decide, inlX2, Or.inl (wR2 _ (List.mem_of_getElem? (i := 18) rfl))⟩
theorem flX2_23 : FL RX2 23 2 2 := ⟨RX2, TX2, 5, rfl, by decide, inlX2, Or.inl (wR6 _ (List.mem_of_getElem? (i := 12) rfl))⟩
theorem fpX2_23 : FP RX2 23 2 2 .int := ⟨RX2, TX2, 5, tyX2, rfl, by decide, inlX2, Or.inl (wR6 _ (List.mem_of_getElem? (i := 12) rfl)), tyX2_ok, nmX2, rfl, by decide +kernel⟩
theorem flX2_30 : FL RX2 30 2 3 := ⟨RX2, TX2, 5, rfl, by decide, inlX2, Or.inl (wR6 _ (List.mem_of_getElem? (i := 13) rfl))⟩
theorem fpX2_30 : FP RX2 30 2 3 .int := ⟨RX2, TX2, 5, tyX2, rfl, by decide, inlX2, Or.inl (wR6 _ (List.mem_of_getElem? (i := 13) rfl)), tyX2_ok, nmX2, rfl, by decide +kernel⟩
theorem flX2_37 : FL RX2 37 2 1 := ⟨RX2, TX2, 5, rfl, by decide, inlX2, Or.inl (wR6 _ (List.mem_of_getElem? (i := 14) rfl))⟩
theorem fpX2_37 : FP RX2 37 2 1 .int := ⟨RX2, TX2, 5, tyX2, rfl, by decide, inlX2, Or.inl (wR6 _ (List.mem_of_getElem? (i := 14) rfl)), tyX2_ok, nmX2, rfl, by decide +kernel⟩
theorem flX2_74 : FL RX2 74 4 7 := ⟨RX4, TX4, 10, rfl, by decide, inlX4, Or.inr (List.mem_of_getElem? (i := 12) rfl)⟩
theorem fpX2_74 : FP RX2 74 4 7 .int := ⟨RX4, TX4, 10, tyX4, rfl, by decide, inlX4, Or.inr (List.mem_of_getElem? (i := 12) rfl), tyX4_ok, nmX4, rfl, by decide +kernel⟩
theorem flX2_77 : FL RX2 77 4 2 := ⟨RX4, TX4, 10, rfl, by decide, inlX4, Or.inr (List.mem_of_getElem? (i := 4) rfl)⟩
theorem fpX2_77 : FP RX2 77 4 2 .int := ⟨RX4, TX4, 10, tyX4, rfl, by decide, inlX4, Or.inr (List.mem_of_getElem? (i := 4) rfl), tyX4_ok, nmX4, rfl, by decide +kernel⟩
theorem flX2_83 : FL RX2 83 2 4 := ⟨RX2, TX2, 5, rfl, by decide, inlX2, Or.inl (wR7 _ (List.mem_of_getElem? (i := 20) rfl))⟩
theorem fpX2_83 : FP RX2 83 2 4 .int := ⟨RX2, TX2, 5, tyX2, rfl, by decide, inlX2, Or.inl (wR7 _ (List.mem_of_getElem? (i := 20) rfl)), tyX2_ok, nmX2, rfl, by decide +kernel⟩
theorem flX2_90 : FL RX2 90 4 6 := ⟨RX4, TX4, 10, rfl, by decide, inlX4, Or.inr (List.mem_of_getElem? (i := 11) rfl)⟩
theorem fpX2_90 : FP RX2 90 4 6 .boolean := ⟨RX4, TX4, 10, tyX4, rfl, by decide, inlX4, Or.inr (List.mem_of_getElem? (i := 11) rfl), tyX4_ok, nmX4, rfl, by decide +kernel⟩
theorem flX2_94 : FL RX2 94 4 5 := ⟨RX4, TX4, 10, rfl, by decide, inlX4, Or.inr (List.mem_of_getElem? (i := 9) rfl)⟩
theorem fpX2_94 : FP RX2 94 4 5 .int := ⟨RX4, TX4, 10, tyX4, rfl, by decide, inlX4, Or.inr (List.mem_of_getElem? (i := 9) rfl), tyX4_ok, nmX4, rfl, by decide +kernel⟩
theorem flX3_9 : FL RX3 9 3 0 := ⟨RX3, TX3, 2, rfl, by decide, inlX3, Or.inl (wR3 _ (List.mem_of_getElem? (i := 0) rfl))⟩
theorem flX3_15 : FL RX3 15 3 1 := ⟨RX3, TX3, 2, rfl, by decide, inlX3, Or.inl (wR3 _ (List.mem_of_getElem? (i := 1) rfl))⟩
theorem fpX3_15 : FP RX3 15 3 1 .int := ⟨RX3, TX3, 2, tyX3, rfl, by decide, inlX3, Or.inl (wR3 _ (List.mem_of_getElem? (i := 1) rfl)), tyX3_ok, nmX3, rfl, by decide +kernel⟩
theorem flX4_9 : FL RX4 9 4 8 := ⟨RX4, TX4, 10, rfl, by decide, inlX4, Or.inl (wR3 _ (List.mem_of_getElem? (i := 6) rfl))⟩
theorem flX4_15 : FL RX4 15 4 9 := ⟨RX4, TX4, 10, rfl, by decide, inlX4, Or.inl (wR3 _ (List.mem_of_getElem? (i := 7) rfl))⟩
theorem flX4_18 : FL RX4 18 4 0 := ⟨RX4, TX4, 10, rfl, by decide, inlX4, Or.inl (wR6 _ (List.mem_of_getElem? (i := 19) rfl))⟩
theorem fpX4_18 : FP RX4 18 4 0 .int := ⟨RX4, TX4, 10, tyX4, rfl, by decide, inlX4, Or.inl (wR6 _ (List.mem_of_getElem? (i := 19) rfl)), tyX4_ok, nmX4, rfl, by decide +kernel⟩
theorem flX4_22 : FL RX4 22 4 1 := ⟨RX4, TX4, 10, rfl, by decide, inlX4, Or.inl (wR6 _ (List.mem_of_getElem? (i := 20) rfl))⟩
theorem fpX4_22 : FP RX4 22 4 1 .int := ⟨RX4, TX4, 10, tyX4, rfl, by decide, inlX4, Or.inl (wR6 _ (List.mem_of_getElem? (i := 20) rfl)), tyX4_ok, nmX4, rfl, by decide +kernel⟩
theorem flX4_25 : FL RX4 25 4 2 := ⟨RX4, TX4, 10, rfl, by decide, inlX4, Or.inl (wR6 _ (List.mem_of_getElem? (i := 21) rfl))⟩
theorem fpX4_25 : FP RX4 25 4 2 .int := ⟨RX4, TX4, 10, tyX4, rfl, by decide, inlX4, Or.inl (wR6 _ (List.mem_of_getElem? (i := 21) rfl)), tyX4_ok, nmX4, rfl, by decide +kernel⟩
theorem flX4_28 : FL RX4 28 4 3 := ⟨RX4, TX4, 10, rfl, by decide, inlX4, Or.inl (wR6 _ (List.mem_of_getElem? (i := 22) rfl))⟩
theorem fpX4_28 : FP RX4 28 4 3 .int := ⟨RX4, TX4, 10, tyX4, rfl, by decide, inlX4, Or.inl (wR6 _ (List.mem_of_getElem? (i := 22) rfl)), tyX4_ok, nmX4, rfl, by decide +kernel⟩
theorem flX4_31 : FL RX4 31 4 4 := ⟨RX4, TX4, 10, rfl, by decide, inlX4, Or.inl (wR6 _ (List.mem_of_getElem? (i := 23) rfl))⟩
theorem fpX4_31 : FP RX4 31 4 4 .int := ⟨RX4, TX4, 10, tyX4, rfl, by decide, inlX4, Or.inl (wR6 _ (List.mem_of_getElem? (i := 23) rfl)), tyX4_ok, nmX4, rfl, by decide +kernel⟩
theorem flX4_34 : FL RX4 34 4 5 := ⟨RX4, TX4, 10, rfl, by decide, inlX4, Or.inl (wR7 _ (List.mem_of_getElem? (i := 0) rfl))⟩
theorem fpX4_34 : FP RX4 34 4 5 .int := ⟨RX4, TX4, 10, tyX4, rfl, by decide, inlX4, Or.inl (wR7 _ (List.mem_of_getElem? (i := 0) rfl)), tyX4_ok, nmX4, rfl, by decide +kernel⟩
theorem flX4_37 : FL RX4 37 4 6 := ⟨RX4, TX4, 10, rfl, by decide, inlX4, Or.inl (wR7 _ (List.mem_of_getElem? (i := 1) rfl))⟩
theorem fpX4_37 : FP RX4 37 4 6 .boolean := ⟨RX4, TX4, 10, tyX4, rfl, by decide, inlX4, Or.inl (wR7 _ (List.mem_of_getElem? (i := 1) rfl)), tyX4_ok, nmX4, rfl, by decide +kernel⟩
theorem flX4_41 : FL RX4 41 4 7 := ⟨RX4, TX4, 10, rfl, by decide, inlX4, Or.inl (wR7 _ (List.mem_of_getElem? (i := 2) rfl))⟩
theorem fpX4_41 : FP RX4 41 4 7 .int := ⟨RX4, TX4, 10, tyX4, rfl, by decide, inlX4, Or.inl (wR7 _ (List.mem_of_getElem? (i := 2) rfl)), tyX4_ok, nmX4, rfl, by decide +kernel⟩
theorem flX5_9 : FL RX5 9 5 0 := ⟨RX5, TX5, 4, rfl, by decide, inlX5, Or.inl (wR12 _ (List.mem_of_getElem? (i := 8) rfl))⟩
theorem fpX5_9 : FP RX5 9 5 0 .int := ⟨RX5, TX5, 4, tyX5, rfl, by decide, inlX5, Or.inl (wR12 _ (List.mem_of_getElem? (i := 8) rfl)), tyX5_ok, nmX5, rfl, by decide +kernel⟩
theorem flX5_15 : FL RX5 15 5 1 := ⟨RX5, TX5, 4, rfl, by decide, inlX5, Or.inl (wR12 _ (List.mem_of_getElem? (i := 9) rfl))⟩
theorem fpX5_15 : FP RX5 15 5 1 .int := ⟨RX5, TX5, 4, tyX5, rfl, by decide, inlX5, Or.inl (wR12 _ (List.mem_of_getElem? (i := 9) rfl)), tyX5_ok, nmX5, rfl, by decide +kernel⟩
theorem flX5_18 : FL RX5 18 5 2 := ⟨RX5, TX5, 4, rfl, by decide, inlX5, Or.inl (wR12 _ (List.mem_of_getElem? (i := 10) rfl))⟩
theorem fpX5_18 : FP RX5 18 5 2 .int := ⟨RX5, TX5, 4, tyX5, rfl, by decide, inlX5, Or.inl (wR12 _ (List.mem_of_getElem? (i := 10) rfl)), tyX5_ok, nmX5, rfl, by decide +kernel⟩
theorem flX5_21 : FL RX5 21 5 3 := ⟨RX5, TX5, 4, rfl, by decide, inlX5, Or.inl (wR12 _ (List.mem_of_getElem? (i := 11) rfl))⟩
theorem fpX5_21 : FP RX5 21 5 3 .int := ⟨RX5, TX5, 4, tyX5, rfl, by decide, inlX5, Or.inl (wR12 _ (List.mem_of_getElem? (i := 11) rfl)), tyX5_ok, nmX5, rfl, by decide +kernel⟩
theorem flX6_10 : FL RX6 10 6 0 := ⟨RX6, TX6, 10, rfl, by decide, inlX6, Or.inl (wR1 _ (List.mem_of_getElem? (i := 16) rfl))⟩
theorem flX6_16 : FL RX6 16 2 0 := ⟨RX2, TX2, 5, rfl, by decide, inlX2, Or.inr (List.mem_of_getElem? (i := 1) rfl)⟩
theorem flX6_20 : FL RX6 20 6 1 := ⟨RX6, TX6, 10, rfl, by decide, inlX6, Or.inl (wR1 _ (List.mem_of_getElem? (i := 17) rfl))⟩
theorem flX6_24 : FL RX6 24 6 2 := ⟨RX6, TX6, 10, rfl, by decide, inlX6, Or.inl (wR1 _ (List.mem_of_getElem? (i := 21) rfl))⟩
theorem flX6_28 : FL RX6 28 6 3 := ⟨RX6, TX6, 10, rfl, by decide, inlX6, Or.inl (wR1 _ (List.mem_of_getElem? (i := 22) rfl))⟩
theorem flX6_34 : FL RX6 34 6 4 := ⟨RX6, TX6, 10, rfl, by decide, inlX6, Or.inl (wR2 _ (List.mem_of_getElem? (i := 2) rfl))⟩
theorem flX6_38 : FL RX6 38 1 0 := ⟨RX1, TX1, 2, rfl, by decide, inlX1, Or.inr (List.mem_of_getElem? (i := 17) rfl)⟩
theorem flX6_42 : FL RX6 42 6 5 := ⟨RX6, TX6, 10, rfl, by decide, inlX6, Or.inl (wR2 _ (List.mem_of_getElem? (i := 3) rfl))⟩
theorem flX6_46 : FL RX6 46 6 6 := ⟨RX6, TX6, 10, rfl, by decide, inlX6, Or.inl (wR2 _ (List.mem_of_getElem? (i := 7) rfl))⟩
theorem flX6_50 : FL RX6 50 6 7 := ⟨RX6, TX6, 10, rfl, by decide, inlX6, Or.inl (wR2 _ (List.mem_of_getElem? (i := 8) rfl))⟩
theorem flX6_53 : FL RX6 53 6 8 := ⟨RX6, TX6, 10, rfl, by decide, inlX6, Or.inl (wR2 _ (List.mem_of_getElem? (i := 9) rfl))⟩
theorem flX6_56 : FL RX6 56 6 9 := ⟨RX6, TX6, 10, rfl, by decide, inlX6, Or.inl (wR2 _ (List.mem_of_getElem? (i := 10) rfl))⟩
theorem fpX6_56 : FP RX6 56 6 9 .long := ⟨RX6, TX6, 10, tyX6, rfl, by decide, inlX6, Or.inl (wR2 _ (List.mem_of_getElem? (i := 10) rfl)), tyX6_ok, nmX6, rfl, by decide +kernel⟩
theorem flX6_60 : FL RX6 60 3 1 := ⟨RX3, TX3, 2, rfl, by decide, inlX3, Or.inr (List.mem_of_getElem? (i := 0) rfl)⟩
theorem fpX6_60 : FP RX6 60 3 1 .int := ⟨RX3, TX3, 2, tyX3, rfl, by decide, inlX3, Or.inr (List.mem_of_getElem? (i := 0) rfl), tyX3_ok, nmX3, rfl, by decide +kernel⟩
theorem flX6_82 : FL RX6 82 4 0 := ⟨RX4, TX4, 10, rfl, by decide, inlX4, Or.inr (List.mem_of_getElem? (i := 2) rfl)⟩
theorem fpX6_82 : FP RX6 82 4 0 .int := ⟨RX4, TX4, 10, tyX4, rfl, by decide, inlX4, Or.inr (List.mem_of_getElem? (i := 2) rfl), tyX4_ok, nmX4, rfl, by decide +kernel⟩
theorem flX6_85 : FL RX6 85 4 1 := ⟨RX4, TX4, 10, rfl, by decide, inlX4, Or.inr (List.mem_of_getElem? (i := 3) rfl)⟩
theorem fpX6_85 : FP RX6 85 4 1 .int := ⟨RX4, TX4, 10, tyX4, rfl, by decide, inlX4, Or.inr (List.mem_of_getElem? (i := 3) rfl), tyX4_ok, nmX4, rfl, by decide +kernel⟩
theorem flX6_97 : FL RX6 97 0 5 := ⟨RX0, TX0, 6, rfl, by decide, inlX0, Or.inr (List.mem_of_getElem? (i := 23) rfl)⟩
theorem fpX6_97 : FP RX6 97 0 5 .boolean := ⟨RX0, TX0, 6, tyX0, rfl, by decide, inlX0, Or.inr (List.mem_of_getElem? (i := 23) rfl), tyX0_ok, nmX0, rfl, by decide +kernel⟩
theorem flX6_109 : FL RX6 109 0 2 := ⟨RX0, TX0, 6, rfl, by decide, inlX0, Or.inr (List.mem_of_getElem? (i := 20) rfl)⟩
theorem flX6_117 : FL RX6 117 0 3 := ⟨RX0, TX0, 6, rfl, by decide, inlX0, Or.inr (List.mem_of_getElem? (i := 21) rfl)⟩
theorem flX6_123 : FL RX6 123 4 8 := ⟨RX4, TX4, 10, rfl, by decide, inlX4, Or.inr (List.mem_of_getElem? (i := 14) rfl)⟩
theorem flX6_126 : FL RX6 126 4 9 := ⟨RX4, TX4, 10, rfl, by decide, inlX4, Or.inr (List.mem_of_getElem? (i := 15) rfl)⟩
theorem flX6_129 : FL RX6 129 0 4 := ⟨RX0, TX0, 6, rfl, by decide, inlX0, Or.inr (List.mem_of_getElem? (i := 22) rfl)⟩
theorem flX6_138 : FL RX6 138 0 0 := ⟨RX0, TX0, 6, rfl, by decide, inlX0, Or.inr (List.mem_of_getElem? (i := 18) rfl)⟩
theorem fpX6_138 : FP RX6 138 0 0 .int := ⟨RX0, TX0, 6, tyX0, rfl, by decide, inlX0, Or.inr (List.mem_of_getElem? (i := 18) rfl), tyX0_ok, nmX0, rfl, by decide +kernel⟩
theorem flX6_149 : FL RX6 149 4 7 := ⟨RX4, TX4, 10, rfl, by decide, inlX4, Or.inr (List.mem_of_getElem? (i := 13) rfl)⟩
theorem fpX6_149 : FP RX6 149 4 7 .int := ⟨RX4, TX4, 10, tyX4, rfl, by decide, inlX4, Or.inr (List.mem_of_getElem? (i := 13) rfl), tyX4_ok, nmX4, rfl, by decide +kernel⟩
theorem flX6_155 : FL RX6 155 5 1 := ⟨RX5, TX5, 4, rfl, by decide, inlX5, Or.inr (List.mem_of_getElem? (i := 16) rfl)⟩
theorem fpX6_155 : FP RX6 155 5 1 .int := ⟨RX5, TX5, 4, tyX5, rfl, by decide, inlX5, Or.inr (List.mem_of_getElem? (i := 16) rfl), tyX5_ok, nmX5, rfl, by decide +kernel⟩
theorem flX6_158 : FL RX6 158 0 1 := ⟨RX0, TX0, 6, rfl, by decide, inlX0, Or.inr (List.mem_of_getElem? (i := 19) rfl)⟩
theorem fpX6_158 : FP RX6 158 0 1 .int := ⟨RX0, TX0, 6, tyX0, rfl, by decide, inlX0, Or.inr (List.mem_of_getElem? (i := 19) rfl), tyX0_ok, nmX0, rfl, by decide +kernel⟩
theorem flX6_221 : FL RX6 221 4 5 := ⟨RX4, TX4, 10, rfl, by decide, inlX4, Or.inr (List.mem_of_getElem? (i := 10) rfl)⟩
theorem fpX6_221 : FP RX6 221 4 5 .int := ⟨RX4, TX4, 10, tyX4, rfl, by decide, inlX4, Or.inr (List.mem_of_getElem? (i := 10) rfl), tyX4_ok, nmX4, rfl, by decide +kernel⟩
theorem flX6_224 : FL RX6 224 4 2 := ⟨RX4, TX4, 10, rfl, by decide, inlX4, Or.inr (List.mem_of_getElem? (i := 5) rfl)⟩
theorem fpX6_224 : FP RX6 224 4 2 .int := ⟨RX4, TX4, 10, tyX4, rfl, by decide, inlX4, Or.inr (List.mem_of_getElem? (i := 5) rfl), tyX4_ok, nmX4, rfl, by decide +kernel⟩
theorem flX7_7 : FL RX7 7 7 2 := ⟨RX7, TX7, 27, rfl, by decide, inlX7, Or.inl (wR4 _ (List.mem_of_getElem? (i := 7) rfl))⟩
theorem flX7_13 : FL RX7 13 7 4 := ⟨RX7, TX7, 27, rfl, by decide, inlX7, Or.inl (wR4 _ (List.mem_of_getElem? (i := 8) rfl))⟩
theorem flX7_16 : FL RX7 16 7 5 := ⟨RX7, TX7, 27, rfl, by decide, inlX7, Or.inl (wR4 _ (List.mem_of_getElem? (i := 9) rfl))⟩
theorem flX7_19 : FL RX7 19 7 6 := ⟨RX7, TX7, 27, rfl, by decide, inlX7, Or.inl (wR4 _ (List.mem_of_getElem? (i := 10) rfl))⟩
theorem flX7_22 : FL RX7 22 7 7 := ⟨RX7, TX7, 27, rfl, by decide, inlX7, Or.inl (wR4 _ (List.mem_of_getElem? (i := 11) rfl))⟩
theorem flX7_25 : FL RX7 25 7 16 := ⟨RX7, TX7, 27, rfl, by decide, inlX7, Or.inl (wR4 _ (List.mem_of_getElem? (i := 12) rfl))⟩
theorem flX7_28 : FL RX7 28 7 17 := ⟨RX7, TX7, 27, rfl, by decide, inlX7, Or.inl (wR4 _ (List.mem_of_getElem? (i := 13) rfl))⟩
theorem flX7_31 : FL RX7 31 7 18 := ⟨RX7, TX7, 27, rfl, by decide, inlX7, Or.inl (wR4 _ (List.mem_of_getElem? (i := 15) rfl))⟩
theorem flX7_35 : FL RX7 35 7 23 := ⟨RX7, TX7, 27, rfl, by decide, inlX7, Or.inl (wR4 _ (List.mem_of_getElem? (i := 16) rfl))⟩
theorem flX7_38 : FL RX7 38 7 24 := ⟨RX7, TX7, 27, rfl, by decide, inlX7, Or.inl (wR4 _ (List.mem_of_getElem? (i := 17) rfl))⟩
theorem flX7_41 : FL RX7 41 7 25 := ⟨RX7, TX7, 27, rfl, by decide, inlX7, Or.inl (wR4 _ (List.mem_of_getElem? (i := 18) rfl))⟩
theorem flX7_44 : FL RX7 44 7 26 := ⟨RX7, TX7, 27, rfl, by decide, inlX7, Or.inl (wR4 _ (List.mem_of_getElem? (i := 19) rfl))⟩
theorem flX7_47 : FL RX7 47 7 0 := ⟨RX7, TX7, 27, rfl, by decide, inlX7, Or.inl (wR4 _ (List.mem_of_getElem? (i := 20) rfl))⟩
theorem fpX7_47 : FP RX7 47 7 0 .int := ⟨RX7, TX7, 27, tyX7, rfl, by decide, inlX7, Or.inl (wR4 _ (List.mem_of_getElem? (i := 20) rfl)), tyX7_ok, nmX7, rfl, by decide +kernel⟩
theorem flX7_51 : FL RX7 51 7 8 := ⟨RX7, TX7, 27, rfl, by decide, inlX7, Or.inl (wR13 _ (List.mem_of_getElem? (i := 2) rfl))⟩
theorem fpX7_51 : FP RX7 51 7 8 .int := ⟨RX7, TX7, 27, tyX7, rfl, by decide, inlX7, Or.inl (wR13 _ (List.mem_of_getElem? (i := 2) rfl)), tyX7_ok, nmX7, rfl, by decide +kernel⟩
theorem flX7_54 : FL RX7 54 7 9 := ⟨RX7, TX7, 27, rfl, by decide, inlX7, Or.inl (wR13 _ (List.mem_of_getElem? (i := 4) rfl))⟩
theorem fpX7_54 : FP RX7 54 7 9 .int := ⟨RX7, TX7, 27, tyX7, rfl, by decide, inlX7, Or.inl (wR13 _ (List.mem_of_getElem? (i := 4) rfl)), tyX7_ok, nmX7, rfl, by decide +kernel⟩
theorem flX7_61 : FL RX7 61 7 10 := ⟨RX7, TX7, 27, rfl, by decide, inlX7, Or.inl (wR13 _ (List.mem_of_getElem? (i := 6) rfl))⟩
theorem fpX7_61 : FP RX7 61 7 10 .int := ⟨RX7, TX7, 27, tyX7, rfl, by decide, inlX7, Or.inl (wR13 _ (List.mem_of_getElem? (i := 6) rfl)), tyX7_ok, nmX7, rfl, by decide +kernel⟩
theorem flX7_64 : FL RX7 64 7 3 := ⟨RX7, TX7, 27, rfl, by decide, inlX7, Or.inl (wR5 _ (List.mem_of_getElem? (i := 11) rfl))⟩
theorem fpX7_64 : FP RX7 64 7 3 .int := ⟨RX7, TX7, 27, tyX7, rfl, by decide, inlX7, Or.inl (wR5 _ (List.mem_of_getElem? (i := 11) rfl)), tyX7_ok, nmX7, rfl, by decide +kernel⟩
theorem flX7_69 : FL RX7 69 7 19 := ⟨RX7, TX7, 27, rfl, by decide, inlX7, Or.inl (wR13 _ (List.mem_of_getElem? (i := 13) rfl))⟩
theorem fpX7_69 : FP RX7 69 7 19 .int := ⟨RX7, TX7, 27, tyX7, rfl, by decide, inlX7, Or.inl (wR13 _ (List.mem_of_getElem? (i := 13) rfl)), tyX7_ok, nmX7, rfl, by decide +kernel⟩
theorem flX7_76 : FL RX7 76 7 21 := ⟨RX7, TX7, 27, rfl, by decide, inlX7, Or.inl (wR13 _ (List.mem_of_getElem? (i := 0) rfl))⟩
theorem fpX7_76 : FP RX7 76 7 21 .int := ⟨RX7, TX7, 27, tyX7, rfl, by decide, inlX7, Or.inl (wR13 _ (List.mem_of_getElem? (i := 0) rfl)), tyX7_ok, nmX7, rfl, by decide +kernel⟩
theorem flX7_82 : FL RX7 82 7 20 := ⟨RX7, TX7, 27, rfl, by decide, inlX7, Or.inl (wR13 _ (List.mem_of_getElem? (i := 14) rfl))⟩
theorem fpX7_82 : FP RX7 82 7 20 .int := ⟨RX7, TX7, 27, tyX7, rfl, by decide, inlX7, Or.inl (wR13 _ (List.mem_of_getElem? (i := 14) rfl)), tyX7_ok, nmX7, rfl, by decide +kernel⟩
theorem flX7_85 : FL RX7 85 7 22 := ⟨RX7, TX7, 27, rfl, by decide, inlX7, Or.inl (wR13 _ (List.mem_of_getElem? (i := 19) rfl))⟩
theorem fpX7_85 : FP RX7 85 7 22 .int := ⟨RX7, TX7, 27, tyX7, rfl, by decide, inlX7, Or.inl (wR13 _ (List.mem_of_getElem? (i := 19) rfl)), tyX7_ok, nmX7, rfl, by decide +kernel⟩
theorem flX7_99 : FL RX7 99 7 13 := ⟨RX7, TX7, 27, rfl, by decide, inlX7, Or.inl (wR13 _ (List.mem_of_getElem? (i := 3) rfl))⟩
theorem fpX7_99 : FP RX7 99 7 13 .int := ⟨RX7, TX7, 27, tyX7, rfl, by decide, inlX7, Or.inl (wR13 _ (List.mem_of_getElem? (i := 3) rfl)), tyX7_ok, nmX7, rfl, by decide +kernel⟩
theorem flX7_102 : FL RX7 102 7 14 := ⟨RX7, TX7, 27, rfl, by decide, inlX7, Or.inl (wR13 _ (List.mem_of_getElem? (i := 5) rfl))⟩
theorem fpX7_102 : FP RX7 102 7 14 .int := ⟨RX7, TX7, 27, tyX7, rfl, by decide, inlX7, Or.inl (wR13 _ (List.mem_of_getElem? (i := 5) rfl)), tyX7_ok, nmX7, rfl, by decide +kernel⟩
theorem flX7_105 : FL RX7 105 7 12 := ⟨RX7, TX7, 27, rfl, by decide, inlX7, Or.inl (wR13 _ (List.mem_of_getElem? (i := 1) rfl))⟩
theorem fpX7_105 : FP RX7 105 7 12 .int := ⟨RX7, TX7, 27, tyX7, rfl, by decide, inlX7, Or.inl (wR13 _ (List.mem_of_getElem? (i := 1) rfl)), tyX7_ok, nmX7, rfl, by decide +kernel⟩
theorem flX7_111 : FL RX7 111 7 15 := ⟨RX7, TX7, 27, rfl, by decide, inlX7, Or.inl (wR13 _ (List.mem_of_getElem? (i := 7) rfl))⟩
theorem fpX7_111 : FP RX7 111 7 15 .int := ⟨RX7, TX7, 27, tyX7, rfl, by decide, inlX7, Or.inl (wR13 _ (List.mem_of_getElem? (i := 7) rfl)), tyX7_ok, nmX7, rfl, by decide +kernel⟩
theorem flX7_128 : FL RX7 128 7 11 := ⟨RX7, TX7, 27, rfl, by decide, inlX7, Or.inl (wR13 _ (List.mem_of_getElem? (i := 8) rfl))⟩
theorem fpX7_128 : FP RX7 128 7 11 .int := ⟨RX7, TX7, 27, tyX7, rfl, by decide, inlX7, Or.inl (wR13 _ (List.mem_of_getElem? (i := 8) rfl)), tyX7_ok, nmX7, rfl, by decide +kernel⟩
theorem flX7_203 : FL RX7 203 7 1 := ⟨RX7, TX7, 27, rfl, by decide, inlX7, Or.inl (wR29 _ (List.mem_of_getElem? (i := 6) rfl))⟩
theorem fpX7_203 : FP RX7 203 7 1 .long := ⟨RX7, TX7, 27, tyX7, rfl, by decide, inlX7, Or.inl (wR29 _ (List.mem_of_getElem? (i := 6) rfl)), tyX7_ok, nmX7, rfl, by decide +kernel⟩
