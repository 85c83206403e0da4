theorem dL_feed_0 : decode cL_feed 0 = .ok (.aload 6, 2) := by decide +kernel
theorem dL_feed_2 : decode cL_feed 2 = .ok (.iconst 0, 1) := by decide +kernel
theorem dL_feed_3 : decode cL_feed 3 = .ok (.aload_n 0, 1) := by decide +kernel
theorem dL_feed_4 : decode cL_feed 4 = .ok (.iload_n 1, 1) := by decide +kernel
theorem dL_feed_5 : decode cL_feed 5 = .ok (.iload_n 2, 1) := by decide +kernel
theorem dL_feed_6 : decode cL_feed 6 = .ok (.iload_n 3, 1) := by decide +kernel
theorem dL_feed_7 : decode cL_feed 7 = .ok (.iload 4, 2) := by decide +kernel
theorem dL_feed_9 : decode cL_feed 9 = .ok (.iload 5, 2) := by decide +kernel
theorem dL_feed_11 : decode cL_feed 11 = .ok (.invokevirtual 7, 3) := by decide +kernel
theorem dL_feed_14 : decode cL_feed 14 = .ok (.i2l, 1) := by decide +kernel
theorem dL_feed_15 : decode cL_feed 15 = .ok (.lastore, 1) := by decide +kernel
theorem dL_feed_16 : decode cL_feed 16 = .ok (.goto 7, 3) := by decide +kernel
theorem dL_feed_19 : decode cL_feed 19 = .ok (.astore 7, 2) := by decide +kernel
theorem dL_feed_21 : decode cL_feed 21 = .ok (.iconst 1, 1) := by decide +kernel
theorem dL_feed_22 : decode cL_feed 22 = .ok (.ireturn, 1) := by decide +kernel
theorem dL_feed_23 : decode cL_feed 23 = .ok (.iconst 0, 1) := by decide +kernel
theorem dL_feed_24 : decode cL_feed 24 = .ok (.ireturn, 1) := by decide +kernel
theorem dL_load_0 : decode cL_load 0 = .ok (.aload_n 2, 1) := by decide +kernel
theorem dL_load_1 : decode cL_load 1 = .ok (.iconst 0, 1) := by decide +kernel
theorem dL_load_2 : decode cL_load 2 = .ok (.aload_n 0, 1) := by decide +kernel
theorem dL_load_3 : decode cL_load 3 = .ok (.iload_n 1, 1) := by decide +kernel
theorem dL_load_4 : decode cL_load 4 = .ok (.invokevirtual 15, 3) := by decide +kernel
theorem dL_load_7 : decode cL_load 7 = .ok (.i2l, 1) := by decide +kernel
theorem dL_load_8 : decode cL_load 8 = .ok (.lastore, 1) := by decide +kernel
theorem dL_load_9 : decode cL_load 9 = .ok (.goto 6, 3) := by decide +kernel
theorem dL_load_12 : decode cL_load 12 = .ok (.astore_n 3, 1) := by decide +kernel
theorem dL_load_13 : decode cL_load 13 = .ok (.iconst 1, 1) := by decide +kernel
theorem dL_load_14 : decode cL_load 14 = .ok (.ireturn, 1) := by decide +kernel
theorem dL_load_15 : decode cL_load 15 = .ok (.iconst 0, 1) := by decide +kernel
theorem dL_load_16 : decode cL_load 16 = .ok (.ireturn, 1) := by decide +kernel
theorem dL_addPrime_0 : decode cL_addPrime 0 = .ok (.aload_n 2, 1) := by decide +kernel
theorem dL_addPrime_1 : decode cL_addPrime 1 = .ok (.iconst 0, 1) := by decide +kernel
theorem dL_addPrime_2 : decode cL_addPrime 2 = .ok (.aload_n 0, 1) := by decide +kernel
theorem dL_addPrime_3 : decode cL_addPrime 3 = .ok (.iload_n 1, 1) := by decide +kernel
theorem dL_addPrime_4 : decode cL_addPrime 4 = .ok (.invokevirtual 21, 3) := by decide +kernel
theorem dL_addPrime_7 : decode cL_addPrime 7 = .ok (.i2l, 1) := by decide +kernel
theorem dL_addPrime_8 : decode cL_addPrime 8 = .ok (.lastore, 1) := by decide +kernel
theorem dL_addPrime_9 : decode cL_addPrime 9 = .ok (.goto 9, 3) := by decide +kernel
theorem dL_addPrime_12 : decode cL_addPrime 12 = .ok (.astore_n 3, 1) := by decide +kernel
theorem dL_addPrime_13 : decode cL_addPrime 13 = .ok (.iconst 1, 1) := by decide +kernel
theorem dL_addPrime_14 : decode cL_addPrime 14 = .ok (.ireturn, 1) := by decide +kernel
theorem dL_addPrime_15 : decode cL_addPrime 15 = .ok (.astore_n 3, 1) := by decide +kernel
theorem dL_addPrime_16 : decode cL_addPrime 16 = .ok (.iconst 2, 1) := by decide +kernel
theorem dL_addPrime_17 : decode cL_addPrime 17 = .ok (.ireturn, 1) := by decide +kernel
theorem dL_addPrime_18 : decode cL_addPrime 18 = .ok (.iconst 0, 1) := by decide +kernel
theorem dL_addPrime_19 : decode cL_addPrime 19 = .ok (.ireturn, 1) := by decide +kernel
theorem dL_removePrime_0 : decode cL_removePrime 0 = .ok (.aload_n 2, 1) := by decide +kernel
theorem dL_removePrime_1 : decode cL_removePrime 1 = .ok (.iconst 0, 1) := by decide +kernel
theorem dL_removePrime_2 : decode cL_removePrime 2 = .ok (.aload_n 0, 1) := by decide +kernel
theorem dL_removePrime_3 : decode cL_removePrime 3 = .ok (.iload_n 1, 1) := by decide +kernel
theorem dL_removePrime_4 : decode cL_removePrime 4 = .ok (.invokevirtual 24, 3) := by decide +kernel
theorem dL_removePrime_7 : decode cL_removePrime 7 = .ok (.i2l, 1) := by decide +kernel
theorem dL_removePrime_8 : decode cL_removePrime 8 = .ok (.lastore, 1) := by decide +kernel
theorem dL_removePrime_9 : decode cL_removePrime 9 = .ok (.goto 6, 3) := by decide +kernel
theorem dL_removePrime_12 : decode cL_removePrime 12 = .ok (.astore_n 3, 1) := by decide +kernel
theorem dL_removePrime_13 : decode cL_removePrime 13 = .ok (.iconst 1, 1) := by decide +kernel
theorem dL_removePrime_14 : decode cL_removePrime 14 = .ok (.ireturn, 1) := by decide +kernel
theorem dL_removePrime_15 : decode cL_removePrime 15 = .ok (.iconst 0, 1) := by decide +kernel
theorem dL_removePrime_16 : decode cL_removePrime 16 = .ok (.ireturn, 1) := by decide +kernel
theorem dL_prime_0 : decode cL_prime 0 = .ok (.aload_n 3, 1) := by decide +kernel
theorem dL_prime_1 : decode cL_prime 1 = .ok (.iconst 0, 1) := by decide +kernel
theorem dL_prime_2 : decode cL_prime 2 = .ok (.aload_n 0, 1) := by decide +kernel
theorem dL_prime_3 : decode cL_prime 3 = .ok (.iload_n 1, 1) := by decide +kernel
theorem dL_prime_4 : decode cL_prime 4 = .ok (.iload_n 2, 1) := by decide +kernel
theorem dL_prime_5 : decode cL_prime 5 = .ok (.invokevirtual 29, 3) := by decide +kernel
theorem dL_prime_8 : decode cL_prime 8 = .ok (.i2l, 1) := by decide +kernel
theorem dL_prime_9 : decode cL_prime 9 = .ok (.lastore, 1) := by decide +kernel
theorem dL_prime_10 : decode cL_prime 10 = .ok (.goto 11, 3) := by decide +kernel
theorem dL_prime_13 : decode cL_prime 13 = .ok (.astore 4, 2) := by decide +kernel
theorem dL_prime_15 : decode cL_prime 15 = .ok (.iconst 1, 1) := by decide +kernel
theorem dL_prime_16 : decode cL_prime 16 = .ok (.ireturn, 1) := by decide +kernel
theorem dL_prime_17 : decode cL_prime 17 = .ok (.astore 4, 2) := by decide +kernel
theorem dL_prime_19 : decode cL_prime 19 = .ok (.iconst 2, 1) := by decide +kernel
theorem dL_prime_20 : decode cL_prime 20 = .ok (.ireturn, 1) := by decide +kernel
theorem dL_prime_21 : decode cL_prime 21 = .ok (.iconst 0, 1) := by decide +kernel
theorem dL_prime_22 : decode cL_prime 22 = .ok (.ireturn, 1) := by decide +kernel
theorem dL_root_0 : decode cL_root 0 = .ok (.aload_n 3, 1) := by decide +kernel
theorem dL_root_1 : decode cL_root 1 = .ok (.iconst 0, 1) := by decide +kernel
theorem dL_root_2 : decode cL_root 2 = .ok (.aload_n 0, 1) := by decide +kernel
theorem dL_root_3 : decode cL_root 3 = .ok (.iload_n 1, 1) := by decide +kernel
theorem dL_root_4 : decode cL_root 4 = .ok (.iload_n 2, 1) := by decide +kernel
theorem dL_root_5 : decode cL_root 5 = .ok (.invokevirtual 33, 3) := by decide +kernel
theorem dL_root_8 : decode cL_root 8 = .ok (.i2l, 1) := by decide +kernel
theorem dL_root_9 : decode cL_root 9 = .ok (.lastore, 1) := by decide +kernel
theorem dL_root_10 : decode cL_root 10 = .ok (.goto 15, 3) := by decide +kernel
theorem dL_root_13 : decode cL_root 13 = .ok (.astore 4, 2) := by decide +kernel
theorem dL_root_15 : decode cL_root 15 = .ok (.iconst 1, 1) := by decide +kernel
theorem dL_root_16 : decode cL_root 16 = .ok (.ireturn, 1) := by decide +kernel
theorem dL_root_17 : decode cL_root 17 = .ok (.astore 4, 2) := by decide +kernel
theorem dL_root_19 : decode cL_root 19 = .ok (.iconst 2, 1) := by decide +kernel
theorem dL_root_20 : decode cL_root 20 = .ok (.ireturn, 1) := by decide +kernel
theorem dL_root_21 : decode cL_root 21 = .ok (.astore 4, 2) := by decide +kernel
theorem dL_root_23 : decode cL_root 23 = .ok (.iconst 3, 1) := by decide +kernel
theorem dL_root_24 : decode cL_root 24 = .ok (.ireturn, 1) := by decide +kernel
theorem dL_root_25 : decode cL_root 25 = .ok (.iconst 0, 1) := by decide +kernel
theorem dL_root_26 : decode cL_root 26 = .ok (.ireturn, 1) := by decide +kernel
theorem dL_power_0 : decode cL_power 0 = .ok (.aload 4, 2) := by decide +kernel
theorem dL_power_2 : decode cL_power 2 = .ok (.iconst 0, 1) := by decide +kernel
theorem dL_power_3 : decode cL_power 3 = .ok (.aload_n 0, 1) := by decide +kernel
theorem dL_power_4 : decode cL_power 4 = .ok (.iload_n 1, 1) := by decide +kernel
theorem dL_power_5 : decode cL_power 5 = .ok (.iload_n 2, 1) := by decide +kernel
theorem dL_power_6 : decode cL_power 6 = .ok (.iload_n 3, 1) := by decide +kernel
theorem dL_power_7 : decode cL_power 7 = .ok (.invokevirtual 38, 3) := by decide +kernel
theorem dL_power_10 : decode cL_power 10 = .ok (.i2l, 1) := by decide +kernel
theorem dL_power_11 : decode cL_power 11 = .ok (.lastore, 1) := by decide +kernel
theorem dL_power_12 : decode cL_power 12 = .ok (.goto 11, 3) := by decide +kernel
theorem dL_power_15 : decode cL_power 15 = .ok (.astore 5, 2) := by decide +kernel
theorem dL_power_17 : decode cL_power 17 = .ok (.iconst 1, 1) := by decide +kernel
theorem dL_power_18 : decode cL_power 18 = .ok (.ireturn, 1) := by decide +kernel
theorem dL_power_19 : decode cL_power 19 = .ok (.astore 5, 2) := by decide +kernel
theorem dL_power_21 : decode cL_power 21 = .ok (.iconst 2, 1) := by decide +kernel
theorem dL_power_22 : decode cL_power 22 = .ok (.ireturn, 1) := by decide +kernel
theorem dL_power_23 : decode cL_power 23 = .ok (.iconst 0, 1) := by decide +kernel
theorem dL_power_24 : decode cL_power 24 = .ok (.ireturn, 1) := by decide +kernel
theorem dL_inverse_0 : decode cL_inverse 0 = .ok (.aload_n 3, 1) := by decide +kernel
theorem dL_inverse_1 : decode cL_inverse 1 = .ok (.iconst 0, 1) := by decide +kernel
theorem dL_inverse_2 : decode cL_inverse 2 = .ok (.aload_n 0, 1) := by decide +kernel
theorem dL_inverse_3 : decode cL_inverse 3 = .ok (.iload_n 1, 1) := by decide +kernel
theorem dL_inverse_4 : decode cL_inverse 4 = .ok (.iload_n 2, 1) := by decide +kernel
theorem dL_inverse_5 : decode cL_inverse 5 = .ok (.invokevirtual 42, 3) := by decide +kernel
theorem dL_inverse_8 : decode cL_inverse 8 = .ok (.i2l, 1) := by decide +kernel
theorem dL_inverse_9 : decode cL_inverse 9 = .ok (.lastore, 1) := by decide +kernel
theorem dL_inverse_10 : decode cL_inverse 10 = .ok (.goto 11, 3) := by decide +kernel
theorem dL_inverse_13 : decode cL_inverse 13 = .ok (.astore 4, 2) := by decide +kernel
theorem dL_inverse_15 : decode cL_inverse 15 = .ok (.iconst 1, 1) := by decide +kernel
theorem dL_inverse_16 : decode cL_inverse 16 = .ok (.ireturn, 1) := by decide +kernel
theorem dL_inverse_17 : decode cL_inverse 17 = .ok (.astore 4, 2) := by decide +kernel
theorem dL_inverse_19 : decode cL_inverse 19 = .ok (.iconst 2, 1) := by decide +kernel
theorem dL_inverse_20 : decode cL_inverse 20 = .ok (.ireturn, 1) := by decide +kernel
theorem dL_inverse_21 : decode cL_inverse 21 = .ok (.iconst 0, 1) := by decide +kernel
theorem dL_inverse_22 : decode cL_inverse 22 = .ok (.ireturn, 1) := by decide +kernel
theorem dL_order_0 : decode cL_order 0 = .ok (.aload_n 3, 1) := by decide +kernel
theorem dL_order_1 : decode cL_order 1 = .ok (.iconst 0, 1) := by decide +kernel
theorem dL_order_2 : decode cL_order 2 = .ok (.aload_n 0, 1) := by decide +kernel
theorem dL_order_3 : decode cL_order 3 = .ok (.iload_n 1, 1) := by decide +kernel
theorem dL_order_4 : decode cL_order 4 = .ok (.iload_n 2, 1) := by decide +kernel
theorem dL_order_5 : decode cL_order 5 = .ok (.invokevirtual 45, 3) := by decide +kernel
theorem dL_order_8 : decode cL_order 8 = .ok (.i2l, 1) := by decide +kernel
theorem dL_order_9 : decode cL_order 9 = .ok (.lastore, 1) := by decide +kernel
theorem dL_order_10 : decode cL_order 10 = .ok (.goto 11, 3) := by decide +kernel
theorem dL_order_13 : decode cL_order 13 = .ok (.astore 4, 2) := by decide +kernel
theorem dL_order_15 : decode cL_order 15 = .ok (.iconst 1, 1) := by decide +kernel
theorem dL_order_16 : decode cL_order 16 = .ok (.ireturn, 1) := by decide +kernel
theorem dL_order_17 : decode cL_order 17 = .ok (.astore 4, 2) := by decide +kernel
theorem dL_order_19 : decode cL_order 19 = .ok (.iconst 2, 1) := by decide +kernel
theorem dL_order_20 : decode cL_order 20 = .ok (.ireturn, 1) := by decide +kernel
theorem dL_order_21 : decode cL_order 21 = .ok (.iconst 0, 1) := by decide +kernel
theorem dL_order_22 : decode cL_order 22 = .ok (.ireturn, 1) := by decide +kernel
theorem dL_logarithm_0 : decode cL_logarithm 0 = .ok (.aload_n 3, 1) := by decide +kernel
theorem dL_logarithm_1 : decode cL_logarithm 1 = .ok (.iconst 0, 1) := by decide +kernel
theorem dL_logarithm_2 : decode cL_logarithm 2 = .ok (.aload_n 0, 1) := by decide +kernel
theorem dL_logarithm_3 : decode cL_logarithm 3 = .ok (.iload_n 1, 1) := by decide +kernel
theorem dL_logarithm_4 : decode cL_logarithm 4 = .ok (.iload_n 2, 1) := by decide +kernel
theorem dL_logarithm_5 : decode cL_logarithm 5 = .ok (.invokevirtual 48, 3) := by decide +kernel
theorem dL_logarithm_8 : decode cL_logarithm 8 = .ok (.i2l, 1) := by decide +kernel
theorem dL_logarithm_9 : decode cL_logarithm 9 = .ok (.lastore, 1) := by decide +kernel
theorem dL_logarithm_10 : decode cL_logarithm 10 = .ok (.goto 11, 3) := by decide +kernel
theorem dL_logarithm_13 : decode cL_logarithm 13 = .ok (.astore 4, 2) := by decide +kernel
theorem dL_logarithm_15 : decode cL_logarithm 15 = .ok (.iconst 1, 1) := by decide +kernel
theorem dL_logarithm_16 : decode cL_logarithm 16 = .ok (.ireturn, 1) := by decide +kernel
theorem dL_logarithm_17 : decode cL_logarithm 17 = .ok (.astore 4, 2) := by decide +kernel
theorem dL_logarithm_19 : decode cL_logarithm 19 = .ok (.iconst 2, 1) := by decide +kernel
theorem dL_logarithm_20 : decode cL_logarithm 20 = .ok (.ireturn, 1) := by decide +kernel
theorem dL_logarithm_21 : decode cL_logarithm 21 = .ok (.iconst 0, 1) := by decide +kernel
theorem dL_logarithm_22 : decode cL_logarithm 22 = .ok (.ireturn, 1) := by decide +kernel
theorem dL_primeFor_0 : decode cL_primeFor 0 = .ok (.aload_n 3, 1) := by decide +kernel
theorem dL_primeFor_1 : decode cL_primeFor 1 = .ok (.iconst 0, 1) := by decide +kernel
theorem dL_primeFor_2 : decode cL_primeFor 2 = .ok (.aload_n 0, 1) := by decide +kernel
theorem dL_primeFor_3 : decode cL_primeFor 3 = .ok (.iload_n 1, 1) := by decide +kernel
theorem dL_primeFor_4 : decode cL_primeFor 4 = .ok (.iload_n 2, 1) := by decide +kernel
theorem dL_primeFor_5 : decode cL_primeFor 5 = .ok (.invokevirtual 51, 3) := by decide +kernel
theorem dL_primeFor_8 : decode cL_primeFor 8 = .ok (.i2l, 1) := by decide +kernel
theorem dL_primeFor_9 : decode cL_primeFor 9 = .ok (.lastore, 1) := by decide +kernel
theorem dL_primeFor_10 : decode cL_primeFor 10 = .ok (.goto 11, 3) := by decide +kernel
theorem dL_primeFor_13 : decode cL_primeFor 13 = .ok (.astore 4, 2) := by decide +kernel
theorem dL_primeFor_15 : decode cL_primeFor 15 = .ok (.iconst 1, 1) := by decide +kernel
theorem dL_primeFor_16 : decode cL_primeFor 16 = .ok (.ireturn, 1) := by decide +kernel
theorem dL_primeFor_17 : decode cL_primeFor 17 = .ok (.astore 4, 2) := by decide +kernel
theorem dL_primeFor_19 : decode cL_primeFor 19 = .ok (.iconst 2, 1) := by decide +kernel
theorem dL_primeFor_20 : decode cL_primeFor 20 = .ok (.ireturn, 1) := by decide +kernel
theorem dL_primeFor_21 : decode cL_primeFor 21 = .ok (.iconst 0, 1) := by decide +kernel
theorem dL_primeFor_22 : decode cL_primeFor 22 = .ok (.ireturn, 1) := by decide +kernel
theorem dL_usable_0 : decode cL_usable 0 = .ok (.aload_n 3, 1) := by decide +kernel
theorem dL_usable_1 : decode cL_usable 1 = .ok (.iconst 0, 1) := by decide +kernel
theorem dL_usable_2 : decode cL_usable 2 = .ok (.aload_n 0, 1) := by decide +kernel
theorem dL_usable_3 : decode cL_usable 3 = .ok (.iload_n 1, 1) := by decide +kernel
theorem dL_usable_4 : decode cL_usable 4 = .ok (.iload_n 2, 1) := by decide +kernel
theorem dL_usable_5 : decode cL_usable 5 = .ok (.invokevirtual 54, 3) := by decide +kernel
theorem dL_usable_8 : decode cL_usable 8 = .ok (.i2l, 1) := by decide +kernel
theorem dL_usable_9 : decode cL_usable 9 = .ok (.lastore, 1) := by decide +kernel
theorem dL_usable_10 : decode cL_usable 10 = .ok (.goto 7, 3) := by decide +kernel
theorem dL_usable_13 : decode cL_usable 13 = .ok (.astore 4, 2) := by decide +kernel
theorem dL_usable_15 : decode cL_usable 15 = .ok (.iconst 1, 1) := by decide +kernel
theorem dL_usable_16 : decode cL_usable 16 = .ok (.ireturn, 1) := by decide +kernel
theorem dL_usable_17 : decode cL_usable 17 = .ok (.iconst 0, 1) := by decide +kernel
theorem dL_usable_18 : decode cL_usable 18 = .ok (.ireturn, 1) := by decide +kernel
theorem dL_length_0 : decode cL_length 0 = .ok (.aload_n 2, 1) := by decide +kernel
theorem dL_length_1 : decode cL_length 1 = .ok (.iconst 0, 1) := by decide +kernel
theorem dL_length_2 : decode cL_length 2 = .ok (.aload_n 0, 1) := by decide +kernel
theorem dL_length_3 : decode cL_length 3 = .ok (.iload_n 1, 1) := by decide +kernel
theorem dL_length_4 : decode cL_length 4 = .ok (.invokevirtual 57, 3) := by decide +kernel
theorem dL_length_7 : decode cL_length 7 = .ok (.i2l, 1) := by decide +kernel
theorem dL_length_8 : decode cL_length 8 = .ok (.lastore, 1) := by decide +kernel
theorem dL_length_9 : decode cL_length 9 = .ok (.goto 6, 3) := by decide +kernel
theorem dL_length_12 : decode cL_length 12 = .ok (.astore_n 3, 1) := by decide +kernel
theorem dL_length_13 : decode cL_length 13 = .ok (.iconst 1, 1) := by decide +kernel
theorem dL_length_14 : decode cL_length 14 = .ok (.ireturn, 1) := by decide +kernel
theorem dL_length_15 : decode cL_length 15 = .ok (.iconst 0, 1) := by decide +kernel
theorem dL_length_16 : decode cL_length 16 = .ok (.ireturn, 1) := by decide +kernel
theorem dL_term_0 : decode cL_term 0 = .ok (.aload_n 3, 1) := by decide +kernel
theorem dL_term_1 : decode cL_term 1 = .ok (.iconst 0, 1) := by decide +kernel
theorem dL_term_2 : decode cL_term 2 = .ok (.aload_n 0, 1) := by decide +kernel
theorem dL_term_3 : decode cL_term 3 = .ok (.iload_n 1, 1) := by decide +kernel
theorem dL_term_4 : decode cL_term 4 = .ok (.iload_n 2, 1) := by decide +kernel
theorem dL_term_5 : decode cL_term 5 = .ok (.invokevirtual 60, 3) := by decide +kernel
theorem dL_term_8 : decode cL_term 8 = .ok (.i2l, 1) := by decide +kernel
theorem dL_term_9 : decode cL_term 9 = .ok (.lastore, 1) := by decide +kernel
theorem dL_term_10 : decode cL_term 10 = .ok (.goto 7, 3) := by decide +kernel
theorem dL_term_13 : decode cL_term 13 = .ok (.astore 4, 2) := by decide +kernel
theorem dL_term_15 : decode cL_term 15 = .ok (.iconst 1, 1) := by decide +kernel
theorem dL_term_16 : decode cL_term 16 = .ok (.ireturn, 1) := by decide +kernel
theorem dL_term_17 : decode cL_term 17 = .ok (.iconst 0, 1) := by decide +kernel
theorem dL_term_18 : decode cL_term 18 = .ok (.ireturn, 1) := by decide +kernel
theorem dL_setSequence_0 : decode cL_setSequence 0 = .ok (.aload 5, 2) := by decide +kernel
theorem dL_setSequence_2 : decode cL_setSequence 2 = .ok (.iconst 0, 1) := by decide +kernel
theorem dL_setSequence_3 : decode cL_setSequence 3 = .ok (.aload_n 0, 1) := by decide +kernel
theorem dL_setSequence_4 : decode cL_setSequence 4 = .ok (.iload_n 1, 1) := by decide +kernel
theorem dL_setSequence_5 : decode cL_setSequence 5 = .ok (.iload_n 2, 1) := by decide +kernel
theorem dL_setSequence_6 : decode cL_setSequence 6 = .ok (.iload_n 3, 1) := by decide +kernel
theorem dL_setSequence_7 : decode cL_setSequence 7 = .ok (.iload 4, 2) := by decide +kernel
theorem dL_setSequence_9 : decode cL_setSequence 9 = .ok (.invokevirtual 63, 3) := by decide +kernel
theorem dL_setSequence_12 : decode cL_setSequence 12 = .ok (.i2l, 1) := by decide +kernel
theorem dL_setSequence_13 : decode cL_setSequence 13 = .ok (.lastore, 1) := by decide +kernel
theorem dL_setSequence_14 : decode cL_setSequence 14 = .ok (.goto 11, 3) := by decide +kernel
theorem dL_setSequence_17 : decode cL_setSequence 17 = .ok (.astore 6, 2) := by decide +kernel
theorem dL_setSequence_19 : decode cL_setSequence 19 = .ok (.iconst 1, 1) := by decide +kernel
theorem dL_setSequence_20 : decode cL_setSequence 20 = .ok (.ireturn, 1) := by decide +kernel
theorem dL_setSequence_21 : decode cL_setSequence 21 = .ok (.astore 6, 2) := by decide +kernel
theorem dL_setSequence_23 : decode cL_setSequence 23 = .ok (.iconst 2, 1) := by decide +kernel
theorem dL_setSequence_24 : decode cL_setSequence 24 = .ok (.ireturn, 1) := by decide +kernel
theorem dL_setSequence_25 : decode cL_setSequence 25 = .ok (.iconst 0, 1) := by decide +kernel
theorem dL_setSequence_26 : decode cL_setSequence 26 = .ok (.ireturn, 1) := by decide +kernel
theorem dL_append_0 : decode cL_append 0 = .ok (.aload_n 3, 1) := by decide +kernel
theorem dL_append_1 : decode cL_append 1 = .ok (.iconst 0, 1) := by decide +kernel
theorem dL_append_2 : decode cL_append 2 = .ok (.aload_n 0, 1) := by decide +kernel
theorem dL_append_3 : decode cL_append 3 = .ok (.iload_n 1, 1) := by decide +kernel
theorem dL_append_4 : decode cL_append 4 = .ok (.iload_n 2, 1) := by decide +kernel
theorem dL_append_5 : decode cL_append 5 = .ok (.invokevirtual 67, 3) := by decide +kernel
theorem dL_append_8 : decode cL_append 8 = .ok (.i2l, 1) := by decide +kernel
theorem dL_append_9 : decode cL_append 9 = .ok (.lastore, 1) := by decide +kernel
theorem dL_append_10 : decode cL_append 10 = .ok (.goto 15, 3) := by decide +kernel
theorem dL_append_13 : decode cL_append 13 = .ok (.astore 4, 2) := by decide +kernel
theorem dL_append_15 : decode cL_append 15 = .ok (.iconst 1, 1) := by decide +kernel
theorem dL_append_16 : decode cL_append 16 = .ok (.ireturn, 1) := by decide +kernel
theorem dL_append_17 : decode cL_append 17 = .ok (.astore 4, 2) := by decide +kernel
theorem dL_append_19 : decode cL_append 19 = .ok (.iconst 2, 1) := by decide +kernel
theorem dL_append_20 : decode cL_append 20 = .ok (.ireturn, 1) := by decide +kernel
theorem dL_append_21 : decode cL_append 21 = .ok (.astore 4, 2) := by decide +kernel
theorem dL_append_23 : decode cL_append 23 = .ok (.iconst 3, 1) := by decide +kernel
theorem dL_append_24 : decode cL_append 24 = .ok (.ireturn, 1) := by decide +kernel
theorem dL_append_25 : decode cL_append 25 = .ok (.iconst 0, 1) := by decide +kernel
theorem dL_append_26 : decode cL_append 26 = .ok (.ireturn, 1) := by decide +kernel
theorem dL_cut_0 : decode cL_cut 0 = .ok (.aload_n 3, 1) := by decide +kernel
theorem dL_cut_1 : decode cL_cut 1 = .ok (.iconst 0, 1) := by decide +kernel
theorem dL_cut_2 : decode cL_cut 2 = .ok (.aload_n 0, 1) := by decide +kernel
theorem dL_cut_3 : decode cL_cut 3 = .ok (.iload_n 1, 1) := by decide +kernel
theorem dL_cut_4 : decode cL_cut 4 = .ok (.iload_n 2, 1) := by decide +kernel
theorem dL_cut_5 : decode cL_cut 5 = .ok (.invokevirtual 70, 3) := by decide +kernel
theorem dL_cut_8 : decode cL_cut 8 = .ok (.i2l, 1) := by decide +kernel
theorem dL_cut_9 : decode cL_cut 9 = .ok (.lastore, 1) := by decide +kernel
theorem dL_cut_10 : decode cL_cut 10 = .ok (.goto 11, 3) := by decide +kernel
theorem dL_cut_13 : decode cL_cut 13 = .ok (.astore 4, 2) := by decide +kernel
theorem dL_cut_15 : decode cL_cut 15 = .ok (.iconst 1, 1) := by decide +kernel
theorem dL_cut_16 : decode cL_cut 16 = .ok (.ireturn, 1) := by decide +kernel
theorem dL_cut_17 : decode cL_cut 17 = .ok (.astore 4, 2) := by decide +kernel
theorem dL_cut_19 : decode cL_cut 19 = .ok (.iconst 2, 1) := by decide +kernel
theorem dL_cut_20 : decode cL_cut 20 = .ok (.ireturn, 1) := by decide +kernel
theorem dL_cut_21 : decode cL_cut 21 = .ok (.iconst 0, 1) := by decide +kernel
theorem dL_cut_22 : decode cL_cut 22 = .ok (.ireturn, 1) := by decide +kernel
theorem dL_swap_0 : decode cL_swap 0 = .ok (.aload_n 3, 1) := by decide +kernel
theorem dL_swap_1 : decode cL_swap 1 = .ok (.iconst 0, 1) := by decide +kernel
theorem dL_swap_2 : decode cL_swap 2 = .ok (.aload_n 0, 1) := by decide +kernel
theorem dL_swap_3 : decode cL_swap 3 = .ok (.iload_n 1, 1) := by decide +kernel
theorem dL_swap_4 : decode cL_swap 4 = .ok (.iload_n 2, 1) := by decide +kernel
theorem dL_swap_5 : decode cL_swap 5 = .ok (.invokevirtual 73, 3) := by decide +kernel
theorem dL_swap_8 : decode cL_swap 8 = .ok (.i2l, 1) := by decide +kernel
theorem dL_swap_9 : decode cL_swap 9 = .ok (.lastore, 1) := by decide +kernel
theorem dL_swap_10 : decode cL_swap 10 = .ok (.goto 7, 3) := by decide +kernel
theorem dL_swap_13 : decode cL_swap 13 = .ok (.astore 4, 2) := by decide +kernel
theorem dL_swap_15 : decode cL_swap 15 = .ok (.iconst 1, 1) := by decide +kernel
theorem dL_swap_16 : decode cL_swap 16 = .ok (.ireturn, 1) := by decide +kernel
theorem dL_swap_17 : decode cL_swap 17 = .ok (.iconst 0, 1) := by decide +kernel
theorem dL_swap_18 : decode cL_swap 18 = .ok (.ireturn, 1) := by decide +kernel
theorem dL_transform_0 : decode cL_transform 0 = .ok (.aload 5, 2) := by decide +kernel
theorem dL_transform_2 : decode cL_transform 2 = .ok (.iconst 0, 1) := by decide +kernel
theorem dL_transform_3 : decode cL_transform 3 = .ok (.aload_n 0, 1) := by decide +kernel
theorem dL_transform_4 : decode cL_transform 4 = .ok (.iload_n 1, 1) := by decide +kernel
theorem dL_transform_5 : decode cL_transform 5 = .ok (.iload_n 2, 1) := by decide +kernel
theorem dL_transform_6 : decode cL_transform 6 = .ok (.iload_n 3, 1) := by decide +kernel
theorem dL_transform_7 : decode cL_transform 7 = .ok (.iload 4, 2) := by decide +kernel
theorem dL_transform_9 : decode cL_transform 9 = .ok (.invokevirtual 76, 3) := by decide +kernel
theorem dL_transform_12 : decode cL_transform 12 = .ok (.i2l, 1) := by decide +kernel
theorem dL_transform_13 : decode cL_transform 13 = .ok (.lastore, 1) := by decide +kernel
theorem dL_transform_14 : decode cL_transform 14 = .ok (.goto 15, 3) := by decide +kernel
theorem dL_transform_17 : decode cL_transform 17 = .ok (.astore 6, 2) := by decide +kernel
theorem dL_transform_19 : decode cL_transform 19 = .ok (.iconst 1, 1) := by decide +kernel
theorem dL_transform_20 : decode cL_transform 20 = .ok (.ireturn, 1) := by decide +kernel
theorem dL_transform_21 : decode cL_transform 21 = .ok (.astore 6, 2) := by decide +kernel
theorem dL_transform_23 : decode cL_transform 23 = .ok (.iconst 2, 1) := by decide +kernel
theorem dL_transform_24 : decode cL_transform 24 = .ok (.ireturn, 1) := by decide +kernel
theorem dL_transform_25 : decode cL_transform 25 = .ok (.astore 6, 2) := by decide +kernel
theorem dL_transform_27 : decode cL_transform 27 = .ok (.iconst 3, 1) := by decide +kernel
theorem dL_transform_28 : decode cL_transform 28 = .ok (.ireturn, 1) := by decide +kernel
theorem dL_transform_29 : decode cL_transform 29 = .ok (.iconst 0, 1) := by decide +kernel
theorem dL_transform_30 : decode cL_transform 30 = .ok (.ireturn, 1) := by decide +kernel
theorem dL_cost_0 : decode cL_cost 0 = .ok (.aload 4, 2) := by decide +kernel
theorem dL_cost_2 : decode cL_cost 2 = .ok (.iconst 0, 1) := by decide +kernel
theorem dL_cost_3 : decode cL_cost 3 = .ok (.aload_n 0, 1) := by decide +kernel
theorem dL_cost_4 : decode cL_cost 4 = .ok (.iload_n 1, 1) := by decide +kernel
theorem dL_cost_5 : decode cL_cost 5 = .ok (.iload_n 2, 1) := by decide +kernel
theorem dL_cost_6 : decode cL_cost 6 = .ok (.iload_n 3, 1) := by decide +kernel
theorem dL_cost_7 : decode cL_cost 7 = .ok (.invokevirtual 79, 3) := by decide +kernel
theorem dL_cost_10 : decode cL_cost 10 = .ok (.i2l, 1) := by decide +kernel
theorem dL_cost_11 : decode cL_cost 11 = .ok (.lastore, 1) := by decide +kernel
theorem dL_cost_12 : decode cL_cost 12 = .ok (.goto 15, 3) := by decide +kernel
theorem dL_cost_15 : decode cL_cost 15 = .ok (.astore 5, 2) := by decide +kernel
theorem dL_cost_17 : decode cL_cost 17 = .ok (.iconst 1, 1) := by decide +kernel
theorem dL_cost_18 : decode cL_cost 18 = .ok (.ireturn, 1) := by decide +kernel
theorem dL_cost_19 : decode cL_cost 19 = .ok (.astore 5, 2) := by decide +kernel
theorem dL_cost_21 : decode cL_cost 21 = .ok (.iconst 2, 1) := by decide +kernel
theorem dL_cost_22 : decode cL_cost 22 = .ok (.ireturn, 1) := by decide +kernel
theorem dL_cost_23 : decode cL_cost 23 = .ok (.astore 5, 2) := by decide +kernel
theorem dL_cost_25 : decode cL_cost 25 = .ok (.iconst 3, 1) := by decide +kernel
theorem dL_cost_26 : decode cL_cost 26 = .ok (.ireturn, 1) := by decide +kernel
theorem dL_cost_27 : decode cL_cost 27 = .ok (.iconst 0, 1) := by decide +kernel
theorem dL_cost_28 : decode cL_cost 28 = .ok (.ireturn, 1) := by decide +kernel
theorem dL_method_0 : decode cL_method 0 = .ok (.aload_n 3, 1) := by decide +kernel
theorem dL_method_1 : decode cL_method 1 = .ok (.iconst 0, 1) := by decide +kernel
theorem dL_method_2 : decode cL_method 2 = .ok (.aload_n 0, 1) := by decide +kernel
theorem dL_method_3 : decode cL_method 3 = .ok (.iload_n 1, 1) := by decide +kernel
theorem dL_method_4 : decode cL_method 4 = .ok (.iload_n 2, 1) := by decide +kernel
theorem dL_method_5 : decode cL_method 5 = .ok (.invokevirtual 82, 3) := by decide +kernel
theorem dL_method_8 : decode cL_method 8 = .ok (.i2l, 1) := by decide +kernel
theorem dL_method_9 : decode cL_method 9 = .ok (.lastore, 1) := by decide +kernel
theorem dL_method_10 : decode cL_method 10 = .ok (.goto 15, 3) := by decide +kernel
theorem dL_method_13 : decode cL_method 13 = .ok (.astore 4, 2) := by decide +kernel
theorem dL_method_15 : decode cL_method 15 = .ok (.iconst 1, 1) := by decide +kernel
theorem dL_method_16 : decode cL_method 16 = .ok (.ireturn, 1) := by decide +kernel
theorem dL_method_17 : decode cL_method 17 = .ok (.astore 4, 2) := by decide +kernel
theorem dL_method_19 : decode cL_method 19 = .ok (.iconst 2, 1) := by decide +kernel
theorem dL_method_20 : decode cL_method 20 = .ok (.ireturn, 1) := by decide +kernel
theorem dL_method_21 : decode cL_method 21 = .ok (.astore 4, 2) := by decide +kernel
theorem dL_method_23 : decode cL_method 23 = .ok (.iconst 3, 1) := by decide +kernel
theorem dL_method_24 : decode cL_method 24 = .ok (.ireturn, 1) := by decide +kernel
theorem dL_method_25 : decode cL_method 25 = .ok (.iconst 0, 1) := by decide +kernel
theorem dL_method_26 : decode cL_method 26 = .ok (.ireturn, 1) := by decide +kernel
theorem dL_chirp_0 : decode cL_chirp 0 = .ok (.aload 4, 2) := by decide +kernel
theorem dL_chirp_2 : decode cL_chirp 2 = .ok (.iconst 0, 1) := by decide +kernel
theorem dL_chirp_3 : decode cL_chirp 3 = .ok (.aload_n 0, 1) := by decide +kernel
theorem dL_chirp_4 : decode cL_chirp 4 = .ok (.iload_n 1, 1) := by decide +kernel
theorem dL_chirp_5 : decode cL_chirp 5 = .ok (.iload_n 2, 1) := by decide +kernel
theorem dL_chirp_6 : decode cL_chirp 6 = .ok (.iload_n 3, 1) := by decide +kernel
theorem dL_chirp_7 : decode cL_chirp 7 = .ok (.invokevirtual 85, 3) := by decide +kernel
theorem dL_chirp_10 : decode cL_chirp 10 = .ok (.i2l, 1) := by decide +kernel
theorem dL_chirp_11 : decode cL_chirp 11 = .ok (.lastore, 1) := by decide +kernel
theorem dL_chirp_12 : decode cL_chirp 12 = .ok (.goto 15, 3) := by decide +kernel
theorem dL_chirp_15 : decode cL_chirp 15 = .ok (.astore 5, 2) := by decide +kernel
theorem dL_chirp_17 : decode cL_chirp 17 = .ok (.iconst 1, 1) := by decide +kernel
theorem dL_chirp_18 : decode cL_chirp 18 = .ok (.ireturn, 1) := by decide +kernel
theorem dL_chirp_19 : decode cL_chirp 19 = .ok (.astore 5, 2) := by decide +kernel
theorem dL_chirp_21 : decode cL_chirp 21 = .ok (.iconst 2, 1) := by decide +kernel
theorem dL_chirp_22 : decode cL_chirp 22 = .ok (.ireturn, 1) := by decide +kernel
theorem dL_chirp_23 : decode cL_chirp 23 = .ok (.astore 5, 2) := by decide +kernel
theorem dL_chirp_25 : decode cL_chirp 25 = .ok (.iconst 3, 1) := by decide +kernel
theorem dL_chirp_26 : decode cL_chirp 26 = .ok (.ireturn, 1) := by decide +kernel
theorem dL_chirp_27 : decode cL_chirp 27 = .ok (.iconst 0, 1) := by decide +kernel
theorem dL_chirp_28 : decode cL_chirp 28 = .ok (.ireturn, 1) := by decide +kernel
theorem dL_longest_0 : decode cL_longest 0 = .ok (.aload_n 2, 1) := by decide +kernel
theorem dL_longest_1 : decode cL_longest 1 = .ok (.iconst 0, 1) := by decide +kernel
theorem dL_longest_2 : decode cL_longest 2 = .ok (.aload_n 0, 1) := by decide +kernel
theorem dL_longest_3 : decode cL_longest 3 = .ok (.iload_n 1, 1) := by decide +kernel
theorem dL_longest_4 : decode cL_longest 4 = .ok (.invokevirtual 88, 3) := by decide +kernel
theorem dL_longest_7 : decode cL_longest 7 = .ok (.i2l, 1) := by decide +kernel
theorem dL_longest_8 : decode cL_longest 8 = .ok (.lastore, 1) := by decide +kernel
theorem dL_longest_9 : decode cL_longest 9 = .ok (.goto 6, 3) := by decide +kernel
theorem dL_longest_12 : decode cL_longest 12 = .ok (.astore_n 3, 1) := by decide +kernel
theorem dL_longest_13 : decode cL_longest 13 = .ok (.iconst 1, 1) := by decide +kernel
theorem dL_longest_14 : decode cL_longest 14 = .ok (.ireturn, 1) := by decide +kernel
theorem dL_longest_15 : decode cL_longest 15 = .ok (.iconst 0, 1) := by decide +kernel
theorem dL_longest_16 : decode cL_longest 16 = .ok (.ireturn, 1) := by decide +kernel
theorem dL_size_0 : decode cL_size 0 = .ok (.aload 5, 2) := by decide +kernel
theorem dL_size_2 : decode cL_size 2 = .ok (.iconst 0, 1) := by decide +kernel
theorem dL_size_3 : decode cL_size 3 = .ok (.aload_n 0, 1) := by decide +kernel
theorem dL_size_4 : decode cL_size 4 = .ok (.iload_n 1, 1) := by decide +kernel
theorem dL_size_5 : decode cL_size 5 = .ok (.iload_n 2, 1) := by decide +kernel
theorem dL_size_6 : decode cL_size 6 = .ok (.iload_n 3, 1) := by decide +kernel
theorem dL_size_7 : decode cL_size 7 = .ok (.iload 4, 2) := by decide +kernel
theorem dL_size_9 : decode cL_size 9 = .ok (.invokevirtual 91, 3) := by decide +kernel
theorem dL_size_12 : decode cL_size 12 = .ok (.i2l, 1) := by decide +kernel
theorem dL_size_13 : decode cL_size 13 = .ok (.lastore, 1) := by decide +kernel
theorem dL_size_14 : decode cL_size 14 = .ok (.goto 15, 3) := by decide +kernel
theorem dL_size_17 : decode cL_size 17 = .ok (.astore 6, 2) := by decide +kernel
theorem dL_size_19 : decode cL_size 19 = .ok (.iconst 1, 1) := by decide +kernel
theorem dL_size_20 : decode cL_size 20 = .ok (.ireturn, 1) := by decide +kernel
theorem dL_size_21 : decode cL_size 21 = .ok (.astore 6, 2) := by decide +kernel
theorem dL_size_23 : decode cL_size 23 = .ok (.iconst 2, 1) := by decide +kernel
theorem dL_size_24 : decode cL_size 24 = .ok (.ireturn, 1) := by decide +kernel
theorem dL_size_25 : decode cL_size 25 = .ok (.astore 6, 2) := by decide +kernel
theorem dL_size_27 : decode cL_size 27 = .ok (.iconst 3, 1) := by decide +kernel
theorem dL_size_28 : decode cL_size 28 = .ok (.ireturn, 1) := by decide +kernel
theorem dL_size_29 : decode cL_size 29 = .ok (.iconst 0, 1) := by decide +kernel
theorem dL_size_30 : decode cL_size 30 = .ok (.ireturn, 1) := by decide +kernel
theorem dL_bound_0 : decode cL_bound 0 = .ok (.aload_n 3, 1) := by decide +kernel
theorem dL_bound_1 : decode cL_bound 1 = .ok (.iconst 0, 1) := by decide +kernel
theorem dL_bound_2 : decode cL_bound 2 = .ok (.aload_n 0, 1) := by decide +kernel
theorem dL_bound_3 : decode cL_bound 3 = .ok (.iload_n 1, 1) := by decide +kernel
theorem dL_bound_4 : decode cL_bound 4 = .ok (.iload_n 2, 1) := by decide +kernel
theorem dL_bound_5 : decode cL_bound 5 = .ok (.invokevirtual 94, 3) := by decide +kernel
theorem dL_bound_8 : decode cL_bound 8 = .ok (.lastore, 1) := by decide +kernel
theorem dL_bound_9 : decode cL_bound 9 = .ok (.goto 11, 3) := by decide +kernel
theorem dL_bound_12 : decode cL_bound 12 = .ok (.astore 4, 2) := by decide +kernel
theorem dL_bound_14 : decode cL_bound 14 = .ok (.iconst 1, 1) := by decide +kernel
theorem dL_bound_15 : decode cL_bound 15 = .ok (.ireturn, 1) := by decide +kernel
theorem dL_bound_16 : decode cL_bound 16 = .ok (.astore 4, 2) := by decide +kernel
theorem dL_bound_18 : decode cL_bound 18 = .ok (.iconst 2, 1) := by decide +kernel
theorem dL_bound_19 : decode cL_bound 19 = .ok (.ireturn, 1) := by decide +kernel
theorem dL_bound_20 : decode cL_bound 20 = .ok (.iconst 0, 1) := by decide +kernel
theorem dL_bound_21 : decode cL_bound 21 = .ok (.ireturn, 1) := by decide +kernel
theorem dL_coefficient_0 : decode cL_coefficient 0 = .ok (.aload 6, 2) := by decide +kernel
theorem dL_coefficient_2 : decode cL_coefficient 2 = .ok (.iconst 0, 1) := by decide +kernel
theorem dL_coefficient_3 : decode cL_coefficient 3 = .ok (.aload_n 0, 1) := by decide +kernel
theorem dL_coefficient_4 : decode cL_coefficient 4 = .ok (.iload_n 1, 1) := by decide +kernel
theorem dL_coefficient_5 : decode cL_coefficient 5 = .ok (.iload_n 2, 1) := by decide +kernel
theorem dL_coefficient_6 : decode cL_coefficient 6 = .ok (.iload_n 3, 1) := by decide +kernel
theorem dL_coefficient_7 : decode cL_coefficient 7 = .ok (.iload 4, 2) := by decide +kernel
theorem dL_coefficient_9 : decode cL_coefficient 9 = .ok (.iload 5, 2) := by decide +kernel
theorem dL_coefficient_11 : decode cL_coefficient 11 = .ok (.invokevirtual 98, 3) := by decide +kernel
theorem dL_coefficient_14 : decode cL_coefficient 14 = .ok (.lastore, 1) := by decide +kernel
theorem dL_coefficient_15 : decode cL_coefficient 15 = .ok (.goto 15, 3) := by decide +kernel
theorem dL_coefficient_18 : decode cL_coefficient 18 = .ok (.astore 7, 2) := by decide +kernel
theorem dL_coefficient_20 : decode cL_coefficient 20 = .ok (.iconst 1, 1) := by decide +kernel
theorem dL_coefficient_21 : decode cL_coefficient 21 = .ok (.ireturn, 1) := by decide +kernel
theorem dL_coefficient_22 : decode cL_coefficient 22 = .ok (.astore 7, 2) := by decide +kernel
theorem dL_coefficient_24 : decode cL_coefficient 24 = .ok (.iconst 2, 1) := by decide +kernel
theorem dL_coefficient_25 : decode cL_coefficient 25 = .ok (.ireturn, 1) := by decide +kernel
theorem dL_coefficient_26 : decode cL_coefficient 26 = .ok (.astore 7, 2) := by decide +kernel
theorem dL_coefficient_28 : decode cL_coefficient 28 = .ok (.iconst 3, 1) := by decide +kernel
theorem dL_coefficient_29 : decode cL_coefficient 29 = .ok (.ireturn, 1) := by decide +kernel
theorem dL_coefficient_30 : decode cL_coefficient 30 = .ok (.iconst 0, 1) := by decide +kernel
theorem dL_coefficient_31 : decode cL_coefficient 31 = .ok (.ireturn, 1) := by decide +kernel
theorem dL_isEnough_0 : decode cL_isEnough 0 = .ok (.aload 4, 2) := by decide +kernel
theorem dL_isEnough_2 : decode cL_isEnough 2 = .ok (.iconst 0, 1) := by decide +kernel
theorem dL_isEnough_3 : decode cL_isEnough 3 = .ok (.aload_n 0, 1) := by decide +kernel
theorem dL_isEnough_4 : decode cL_isEnough 4 = .ok (.iload_n 1, 1) := by decide +kernel
theorem dL_isEnough_5 : decode cL_isEnough 5 = .ok (.iload_n 2, 1) := by decide +kernel
theorem dL_isEnough_6 : decode cL_isEnough 6 = .ok (.iload_n 3, 1) := by decide +kernel
theorem dL_isEnough_7 : decode cL_isEnough 7 = .ok (.invokevirtual 102, 3) := by decide +kernel
theorem dL_isEnough_10 : decode cL_isEnough 10 = .ok (.ifCond .eq 7, 3) := by decide +kernel
theorem dL_isEnough_13 : decode cL_isEnough 13 = .ok (.lconst 1, 1) := by decide +kernel
theorem dL_isEnough_14 : decode cL_isEnough 14 = .ok (.goto 4, 3) := by decide +kernel
theorem dL_isEnough_17 : decode cL_isEnough 17 = .ok (.lconst 0, 1) := by decide +kernel
theorem dL_isEnough_18 : decode cL_isEnough 18 = .ok (.lastore, 1) := by decide +kernel
theorem dL_isEnough_19 : decode cL_isEnough 19 = .ok (.goto 11, 3) := by decide +kernel
theorem dL_isEnough_22 : decode cL_isEnough 22 = .ok (.astore 5, 2) := by decide +kernel
theorem dL_isEnough_24 : decode cL_isEnough 24 = .ok (.iconst 1, 1) := by decide +kernel
theorem dL_isEnough_25 : decode cL_isEnough 25 = .ok (.ireturn, 1) := by decide +kernel
theorem dL_isEnough_26 : decode cL_isEnough 26 = .ok (.astore 5, 2) := by decide +kernel
theorem dL_isEnough_28 : decode cL_isEnough 28 = .ok (.iconst 2, 1) := by decide +kernel
theorem dL_isEnough_29 : decode cL_isEnough 29 = .ok (.ireturn, 1) := by decide +kernel
theorem dL_isEnough_30 : decode cL_isEnough 30 = .ok (.iconst 0, 1) := by decide +kernel
theorem dL_isEnough_31 : decode cL_isEnough 31 = .ok (.ireturn, 1) := by decide +kernel
theorem dL_plan_0 : decode cL_plan 0 = .ok (.aload 6, 2) := by decide +kernel
theorem dL_plan_2 : decode cL_plan 2 = .ok (.iconst 0, 1) := by decide +kernel
theorem dL_plan_3 : decode cL_plan 3 = .ok (.aload_n 0, 1) := by decide +kernel
theorem dL_plan_4 : decode cL_plan 4 = .ok (.iload_n 1, 1) := by decide +kernel
theorem dL_plan_5 : decode cL_plan 5 = .ok (.iload_n 2, 1) := by decide +kernel
theorem dL_plan_6 : decode cL_plan 6 = .ok (.iload_n 3, 1) := by decide +kernel
theorem dL_plan_7 : decode cL_plan 7 = .ok (.iload 4, 2) := by decide +kernel
theorem dL_plan_9 : decode cL_plan 9 = .ok (.iload 5, 2) := by decide +kernel
theorem dL_plan_11 : decode cL_plan 11 = .ok (.invokevirtual 106, 3) := by decide +kernel
theorem dL_plan_14 : decode cL_plan 14 = .ok (.i2l, 1) := by decide +kernel
theorem dL_plan_15 : decode cL_plan 15 = .ok (.lastore, 1) := by decide +kernel
theorem dL_plan_16 : decode cL_plan 16 = .ok (.goto 15, 3) := by decide +kernel
theorem dL_plan_19 : decode cL_plan 19 = .ok (.astore 7, 2) := by decide +kernel
theorem dL_plan_21 : decode cL_plan 21 = .ok (.iconst 1, 1) := by decide +kernel
theorem dL_plan_22 : decode cL_plan 22 = .ok (.ireturn, 1) := by decide +kernel
theorem dL_plan_23 : decode cL_plan 23 = .ok (.astore 7, 2) := by decide +kernel
theorem dL_plan_25 : decode cL_plan 25 = .ok (.iconst 2, 1) := by decide +kernel
theorem dL_plan_26 : decode cL_plan 26 = .ok (.ireturn, 1) := by decide +kernel
theorem dL_plan_27 : decode cL_plan 27 = .ok (.astore 7, 2) := by decide +kernel
theorem dL_plan_29 : decode cL_plan 29 = .ok (.iconst 3, 1) := by decide +kernel
theorem dL_plan_30 : decode cL_plan 30 = .ok (.ireturn, 1) := by decide +kernel
theorem dL_plan_31 : decode cL_plan 31 = .ok (.iconst 0, 1) := by decide +kernel
theorem dL_plan_32 : decode cL_plan 32 = .ok (.ireturn, 1) := by decide +kernel
theorem dL_transformSteps_0 : decode cL_transformSteps 0 = .ok (.aload 5, 2) := by decide +kernel
theorem dL_transformSteps_2 : decode cL_transformSteps 2 = .ok (.iconst 0, 1) := by decide +kernel
theorem dL_transformSteps_3 : decode cL_transformSteps 3 = .ok (.aload_n 0, 1) := by decide +kernel
theorem dL_transformSteps_4 : decode cL_transformSteps 4 = .ok (.iload_n 1, 1) := by decide +kernel
theorem dL_transformSteps_5 : decode cL_transformSteps 5 = .ok (.iload_n 2, 1) := by decide +kernel
theorem dL_transformSteps_6 : decode cL_transformSteps 6 = .ok (.iload_n 3, 1) := by decide +kernel
theorem dL_transformSteps_7 : decode cL_transformSteps 7 = .ok (.iload 4, 2) := by decide +kernel
theorem dL_transformSteps_9 : decode cL_transformSteps 9 = .ok (.invokevirtual 109, 3) := by decide +kernel
theorem dL_transformSteps_12 : decode cL_transformSteps 12 = .ok (.i2l, 1) := by decide +kernel
theorem dL_transformSteps_13 : decode cL_transformSteps 13 = .ok (.lastore, 1) := by decide +kernel
theorem dL_transformSteps_14 : decode cL_transformSteps 14 = .ok (.goto 19, 3) := by decide +kernel
theorem dL_transformSteps_17 : decode cL_transformSteps 17 = .ok (.astore 6, 2) := by decide +kernel
theorem dL_transformSteps_19 : decode cL_transformSteps 19 = .ok (.iconst 1, 1) := by decide +kernel
theorem dL_transformSteps_20 : decode cL_transformSteps 20 = .ok (.ireturn, 1) := by decide +kernel
theorem dL_transformSteps_21 : decode cL_transformSteps 21 = .ok (.astore 6, 2) := by decide +kernel
theorem dL_transformSteps_23 : decode cL_transformSteps 23 = .ok (.iconst 2, 1) := by decide +kernel
theorem dL_transformSteps_24 : decode cL_transformSteps 24 = .ok (.ireturn, 1) := by decide +kernel
theorem dL_transformSteps_25 : decode cL_transformSteps 25 = .ok (.astore 6, 2) := by decide +kernel
theorem dL_transformSteps_27 : decode cL_transformSteps 27 = .ok (.iconst 3, 1) := by decide +kernel
theorem dL_transformSteps_28 : decode cL_transformSteps 28 = .ok (.ireturn, 1) := by decide +kernel
theorem dL_transformSteps_29 : decode cL_transformSteps 29 = .ok (.astore 6, 2) := by decide +kernel
theorem dL_transformSteps_31 : decode cL_transformSteps 31 = .ok (.iconst 4, 1) := by decide +kernel
theorem dL_transformSteps_32 : decode cL_transformSteps 32 = .ok (.ireturn, 1) := by decide +kernel
theorem dL_transformSteps_33 : decode cL_transformSteps 33 = .ok (.iconst 0, 1) := by decide +kernel
theorem dL_transformSteps_34 : decode cL_transformSteps 34 = .ok (.ireturn, 1) := by decide +kernel
theorem dL_multiply_0 : decode cL_multiply 0 = .ok (.aload 6, 2) := by decide +kernel
theorem dL_multiply_2 : decode cL_multiply 2 = .ok (.iconst 0, 1) := by decide +kernel
theorem dL_multiply_3 : decode cL_multiply 3 = .ok (.aload_n 0, 1) := by decide +kernel
theorem dL_multiply_4 : decode cL_multiply 4 = .ok (.iload_n 1, 1) := by decide +kernel
theorem dL_multiply_5 : decode cL_multiply 5 = .ok (.iload_n 2, 1) := by decide +kernel
theorem dL_multiply_6 : decode cL_multiply 6 = .ok (.iload_n 3, 1) := by decide +kernel
theorem dL_multiply_7 : decode cL_multiply 7 = .ok (.iload 4, 2) := by decide +kernel
theorem dL_multiply_9 : decode cL_multiply 9 = .ok (.iload 5, 2) := by decide +kernel
theorem dL_multiply_11 : decode cL_multiply 11 = .ok (.invokevirtual 112, 3) := by decide +kernel
theorem dL_multiply_14 : decode cL_multiply 14 = .ok (.i2l, 1) := by decide +kernel
theorem dL_multiply_15 : decode cL_multiply 15 = .ok (.lastore, 1) := by decide +kernel
theorem dL_multiply_16 : decode cL_multiply 16 = .ok (.goto 19, 3) := by decide +kernel
theorem dL_multiply_19 : decode cL_multiply 19 = .ok (.astore 7, 2) := by decide +kernel
theorem dL_multiply_21 : decode cL_multiply 21 = .ok (.iconst 1, 1) := by decide +kernel
theorem dL_multiply_22 : decode cL_multiply 22 = .ok (.ireturn, 1) := by decide +kernel
theorem dL_multiply_23 : decode cL_multiply 23 = .ok (.astore 7, 2) := by decide +kernel
theorem dL_multiply_25 : decode cL_multiply 25 = .ok (.iconst 2, 1) := by decide +kernel
theorem dL_multiply_26 : decode cL_multiply 26 = .ok (.ireturn, 1) := by decide +kernel
theorem dL_multiply_27 : decode cL_multiply 27 = .ok (.astore 7, 2) := by decide +kernel
theorem dL_multiply_29 : decode cL_multiply 29 = .ok (.iconst 3, 1) := by decide +kernel
theorem dL_multiply_30 : decode cL_multiply 30 = .ok (.ireturn, 1) := by decide +kernel
theorem dL_multiply_31 : decode cL_multiply 31 = .ok (.astore 7, 2) := by decide +kernel
theorem dL_multiply_33 : decode cL_multiply 33 = .ok (.iconst 4, 1) := by decide +kernel
theorem dL_multiply_34 : decode cL_multiply 34 = .ok (.ireturn, 1) := by decide +kernel
theorem dL_multiply_35 : decode cL_multiply 35 = .ok (.iconst 0, 1) := by decide +kernel
theorem dL_multiply_36 : decode cL_multiply 36 = .ok (.ireturn, 1) := by decide +kernel
theorem dL_product_0 : decode cL_product 0 = .ok (.aload_n 2, 1) := by decide +kernel
theorem dL_product_1 : decode cL_product 1 = .ok (.iconst 0, 1) := by decide +kernel
theorem dL_product_2 : decode cL_product 2 = .ok (.aload_n 0, 1) := by decide +kernel
theorem dL_product_3 : decode cL_product 3 = .ok (.iload_n 1, 1) := by decide +kernel
theorem dL_product_4 : decode cL_product 4 = .ok (.invokevirtual 115, 3) := by decide +kernel
theorem dL_product_7 : decode cL_product 7 = .ok (.i2l, 1) := by decide +kernel
theorem dL_product_8 : decode cL_product 8 = .ok (.lastore, 1) := by decide +kernel
theorem dL_product_9 : decode cL_product 9 = .ok (.goto 9, 3) := by decide +kernel
theorem dL_product_12 : decode cL_product 12 = .ok (.astore_n 3, 1) := by decide +kernel
theorem dL_product_13 : decode cL_product 13 = .ok (.iconst 1, 1) := by decide +kernel
theorem dL_product_14 : decode cL_product 14 = .ok (.ireturn, 1) := by decide +kernel
theorem dL_product_15 : decode cL_product 15 = .ok (.astore_n 3, 1) := by decide +kernel
theorem dL_product_16 : decode cL_product 16 = .ok (.iconst 2, 1) := by decide +kernel
theorem dL_product_17 : decode cL_product 17 = .ok (.ireturn, 1) := by decide +kernel
theorem dL_product_18 : decode cL_product 18 = .ok (.iconst 0, 1) := by decide +kernel
theorem dL_product_19 : decode cL_product 19 = .ok (.ireturn, 1) := by decide +kernel
theorem dL_value_0 : decode cL_value 0 = .ok (.aload_n 2, 1) := by decide +kernel
theorem dL_value_1 : decode cL_value 1 = .ok (.iconst 0, 1) := by decide +kernel
theorem dL_value_2 : decode cL_value 2 = .ok (.aload_n 0, 1) := by decide +kernel
theorem dL_value_3 : decode cL_value 3 = .ok (.iload_n 1, 1) := by decide +kernel
theorem dL_value_4 : decode cL_value 4 = .ok (.invokevirtual 118, 3) := by decide +kernel
theorem dL_value_7 : decode cL_value 7 = .ok (.lastore, 1) := by decide +kernel
theorem dL_value_8 : decode cL_value 8 = .ok (.goto 9, 3) := by decide +kernel
theorem dL_value_11 : decode cL_value 11 = .ok (.astore_n 3, 1) := by decide +kernel
theorem dL_value_12 : decode cL_value 12 = .ok (.iconst 1, 1) := by decide +kernel
theorem dL_value_13 : decode cL_value 13 = .ok (.ireturn, 1) := by decide +kernel
theorem dL_value_14 : decode cL_value 14 = .ok (.astore_n 3, 1) := by decide +kernel
theorem dL_value_15 : decode cL_value 15 = .ok (.iconst 2, 1) := by decide +kernel
theorem dL_value_16 : decode cL_value 16 = .ok (.ireturn, 1) := by decide +kernel
theorem dL_value_17 : decode cL_value 17 = .ok (.iconst 0, 1) := by decide +kernel
theorem dL_value_18 : decode cL_value 18 = .ok (.ireturn, 1) := by decide +kernel
theorem dL_digit_0 : decode cL_digit 0 = .ok (.aload_n 3, 1) := by decide +kernel
theorem dL_digit_1 : decode cL_digit 1 = .ok (.iconst 0, 1) := by decide +kernel
theorem dL_digit_2 : decode cL_digit 2 = .ok (.aload_n 0, 1) := by decide +kernel
theorem dL_digit_3 : decode cL_digit 3 = .ok (.iload_n 1, 1) := by decide +kernel
theorem dL_digit_4 : decode cL_digit 4 = .ok (.iload_n 2, 1) := by decide +kernel
theorem dL_digit_5 : decode cL_digit 5 = .ok (.invokevirtual 122, 3) := by decide +kernel
theorem dL_digit_8 : decode cL_digit 8 = .ok (.i2l, 1) := by decide +kernel
theorem dL_digit_9 : decode cL_digit 9 = .ok (.lastore, 1) := by decide +kernel
theorem dL_digit_10 : decode cL_digit 10 = .ok (.goto 11, 3) := by decide +kernel
theorem dL_digit_13 : decode cL_digit 13 = .ok (.astore 4, 2) := by decide +kernel
theorem dL_digit_15 : decode cL_digit 15 = .ok (.iconst 1, 1) := by decide +kernel
theorem dL_digit_16 : decode cL_digit 16 = .ok (.ireturn, 1) := by decide +kernel
theorem dL_digit_17 : decode cL_digit 17 = .ok (.astore 4, 2) := by decide +kernel
theorem dL_digit_19 : decode cL_digit 19 = .ok (.iconst 2, 1) := by decide +kernel
theorem dL_digit_20 : decode cL_digit 20 = .ok (.ireturn, 1) := by decide +kernel
theorem dL_digit_21 : decode cL_digit 21 = .ok (.iconst 0, 1) := by decide +kernel
theorem dL_digit_22 : decode cL_digit 22 = .ok (.ireturn, 1) := by decide +kernel
theorem dL_productAt_0 : decode cL_productAt 0 = .ok (.aload_n 2, 1) := by decide +kernel
theorem dL_productAt_1 : decode cL_productAt 1 = .ok (.iconst 0, 1) := by decide +kernel
theorem dL_productAt_2 : decode cL_productAt 2 = .ok (.aload_n 0, 1) := by decide +kernel
theorem dL_productAt_3 : decode cL_productAt 3 = .ok (.iload_n 1, 1) := by decide +kernel
theorem dL_productAt_4 : decode cL_productAt 4 = .ok (.invokevirtual 125, 3) := by decide +kernel
theorem dL_productAt_7 : decode cL_productAt 7 = .ok (.i2l, 1) := by decide +kernel
theorem dL_productAt_8 : decode cL_productAt 8 = .ok (.lastore, 1) := by decide +kernel
theorem dL_productAt_9 : decode cL_productAt 9 = .ok (.goto 6, 3) := by decide +kernel
theorem dL_productAt_12 : decode cL_productAt 12 = .ok (.astore_n 3, 1) := by decide +kernel
theorem dL_productAt_13 : decode cL_productAt 13 = .ok (.iconst 1, 1) := by decide +kernel
theorem dL_productAt_14 : decode cL_productAt 14 = .ok (.ireturn, 1) := by decide +kernel
theorem dL_productAt_15 : decode cL_productAt 15 = .ok (.iconst 0, 1) := by decide +kernel
theorem dL_productAt_16 : decode cL_productAt 16 = .ok (.ireturn, 1) := by decide +kernel
theorem dL_residue_0 : decode cL_residue 0 = .ok (.aload_n 3, 1) := by decide +kernel
theorem dL_residue_1 : decode cL_residue 1 = .ok (.iconst 0, 1) := by decide +kernel
theorem dL_residue_2 : decode cL_residue 2 = .ok (.aload_n 0, 1) := by decide +kernel
theorem dL_residue_3 : decode cL_residue 3 = .ok (.iload_n 1, 1) := by decide +kernel
theorem dL_residue_4 : decode cL_residue 4 = .ok (.iload_n 2, 1) := by decide +kernel
theorem dL_residue_5 : decode cL_residue 5 = .ok (.invokevirtual 128, 3) := by decide +kernel
theorem dL_residue_8 : decode cL_residue 8 = .ok (.i2l, 1) := by decide +kernel
theorem dL_residue_9 : decode cL_residue 9 = .ok (.lastore, 1) := by decide +kernel
theorem dL_residue_10 : decode cL_residue 10 = .ok (.goto 15, 3) := by decide +kernel
theorem dL_residue_13 : decode cL_residue 13 = .ok (.astore 4, 2) := by decide +kernel
theorem dL_residue_15 : decode cL_residue 15 = .ok (.iconst 1, 1) := by decide +kernel
theorem dL_residue_16 : decode cL_residue 16 = .ok (.ireturn, 1) := by decide +kernel
theorem dL_residue_17 : decode cL_residue 17 = .ok (.astore 4, 2) := by decide +kernel
theorem dL_residue_19 : decode cL_residue 19 = .ok (.iconst 2, 1) := by decide +kernel
theorem dL_residue_20 : decode cL_residue 20 = .ok (.ireturn, 1) := by decide +kernel
theorem dL_residue_21 : decode cL_residue 21 = .ok (.astore 4, 2) := by decide +kernel
theorem dL_residue_23 : decode cL_residue 23 = .ok (.iconst 3, 1) := by decide +kernel
theorem dL_residue_24 : decode cL_residue 24 = .ok (.ireturn, 1) := by decide +kernel
theorem dL_residue_25 : decode cL_residue 25 = .ok (.iconst 0, 1) := by decide +kernel
theorem dL_residue_26 : decode cL_residue 26 = .ok (.ireturn, 1) := by decide +kernel
theorem dL_agreeing_0 : decode cL_agreeing 0 = .ok (.aload_n 3, 1) := by decide +kernel
theorem dL_agreeing_1 : decode cL_agreeing 1 = .ok (.iconst 0, 1) := by decide +kernel
theorem dL_agreeing_2 : decode cL_agreeing 2 = .ok (.aload_n 0, 1) := by decide +kernel
theorem dL_agreeing_3 : decode cL_agreeing 3 = .ok (.iload_n 1, 1) := by decide +kernel
theorem dL_agreeing_4 : decode cL_agreeing 4 = .ok (.iload_n 2, 1) := by decide +kernel
theorem dL_agreeing_5 : decode cL_agreeing 5 = .ok (.invokevirtual 131, 3) := by decide +kernel
theorem dL_agreeing_8 : decode cL_agreeing 8 = .ok (.i2l, 1) := by decide +kernel
theorem dL_agreeing_9 : decode cL_agreeing 9 = .ok (.lastore, 1) := by decide +kernel
theorem dL_agreeing_10 : decode cL_agreeing 10 = .ok (.goto 11, 3) := by decide +kernel
theorem dL_agreeing_13 : decode cL_agreeing 13 = .ok (.astore 4, 2) := by decide +kernel
theorem dL_agreeing_15 : decode cL_agreeing 15 = .ok (.iconst 1, 1) := by decide +kernel
theorem dL_agreeing_16 : decode cL_agreeing 16 = .ok (.ireturn, 1) := by decide +kernel
theorem dL_agreeing_17 : decode cL_agreeing 17 = .ok (.astore 4, 2) := by decide +kernel
theorem dL_agreeing_19 : decode cL_agreeing 19 = .ok (.iconst 2, 1) := by decide +kernel
theorem dL_agreeing_20 : decode cL_agreeing 20 = .ok (.ireturn, 1) := by decide +kernel
theorem dL_agreeing_21 : decode cL_agreeing 21 = .ok (.iconst 0, 1) := by decide +kernel
theorem dL_agreeing_22 : decode cL_agreeing 22 = .ok (.ireturn, 1) := by decide +kernel
theorem dL_store_0 : decode cL_store 0 = .ok (.aload_n 2, 1) := by decide +kernel
theorem dL_store_1 : decode cL_store 1 = .ok (.iconst 0, 1) := by decide +kernel
theorem dL_store_2 : decode cL_store 2 = .ok (.aload_n 0, 1) := by decide +kernel
theorem dL_store_3 : decode cL_store 3 = .ok (.iload_n 1, 1) := by decide +kernel
theorem dL_store_4 : decode cL_store 4 = .ok (.invokevirtual 134, 3) := by decide +kernel
theorem dL_store_7 : decode cL_store 7 = .ok (.i2l, 1) := by decide +kernel
theorem dL_store_8 : decode cL_store 8 = .ok (.lastore, 1) := by decide +kernel
theorem dL_store_9 : decode cL_store 9 = .ok (.goto 9, 3) := by decide +kernel
theorem dL_store_12 : decode cL_store 12 = .ok (.astore_n 3, 1) := by decide +kernel
theorem dL_store_13 : decode cL_store 13 = .ok (.iconst 1, 1) := by decide +kernel
theorem dL_store_14 : decode cL_store 14 = .ok (.ireturn, 1) := by decide +kernel
theorem dL_store_15 : decode cL_store 15 = .ok (.astore_n 3, 1) := by decide +kernel
theorem dL_store_16 : decode cL_store 16 = .ok (.iconst 2, 1) := by decide +kernel
theorem dL_store_17 : decode cL_store 17 = .ok (.ireturn, 1) := by decide +kernel
theorem dL_store_18 : decode cL_store 18 = .ok (.iconst 0, 1) := by decide +kernel
theorem dL_store_19 : decode cL_store 19 = .ok (.ireturn, 1) := by decide +kernel
theorem dL_undo_0 : decode cL_undo 0 = .ok (.aload_n 1, 1) := by decide +kernel
theorem dL_undo_1 : decode cL_undo 1 = .ok (.iconst 0, 1) := by decide +kernel
theorem dL_undo_2 : decode cL_undo 2 = .ok (.aload_n 0, 1) := by decide +kernel
theorem dL_undo_3 : decode cL_undo 3 = .ok (.invokevirtual 137, 3) := by decide +kernel
theorem dL_undo_6 : decode cL_undo 6 = .ok (.i2l, 1) := by decide +kernel
theorem dL_undo_7 : decode cL_undo 7 = .ok (.lastore, 1) := by decide +kernel
theorem dL_undo_8 : decode cL_undo 8 = .ok (.goto 6, 3) := by decide +kernel
theorem dL_undo_11 : decode cL_undo 11 = .ok (.astore_n 2, 1) := by decide +kernel
theorem dL_undo_12 : decode cL_undo 12 = .ok (.iconst 1, 1) := by decide +kernel
theorem dL_undo_13 : decode cL_undo 13 = .ok (.ireturn, 1) := by decide +kernel
theorem dL_undo_14 : decode cL_undo 14 = .ok (.iconst 0, 1) := by decide +kernel
theorem dL_undo_15 : decode cL_undo 15 = .ok (.ireturn, 1) := by decide +kernel
