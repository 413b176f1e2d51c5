theorem dl_550 : decode code 550 = .ok (.iload_n 3, 1) := by decide +kernel
theorem dl_551 : decode code 551 = .ok (.iconst 2, 1) := by decide +kernel
theorem dl_552 : decode code 552 = .ok (.iadd, 1) := by decide +kernel
theorem dl_553 : decode code 553 = .ok (.iaload, 1) := by decide +kernel
theorem dl_554 : decode code 554 = .ok (.aload_n 0, 1) := by decide +kernel
theorem dl_555 : decode code 555 = .ok (.iload_n 3, 1) := by decide +kernel
theorem dl_556 : decode code 556 = .ok (.iconst 3, 1) := by decide +kernel
theorem dl_557 : decode code 557 = .ok (.iadd, 1) := by decide +kernel
theorem dl_558 : decode code 558 = .ok (.iaload, 1) := by decide +kernel
theorem dl_559 : decode code 559 = .ok (.invokevirtual 69, 3) := by decide +kernel
theorem dl_562 : decode code 562 = .ok (.aload_n 2, 1) := by decide +kernel
theorem dl_563 : decode code 563 = .ok (.aload_n 0, 1) := by decide +kernel
theorem dl_564 : decode code 564 = .ok (.iload_n 3, 1) := by decide +kernel
theorem dl_565 : decode code 565 = .ok (.iconst 1, 1) := by decide +kernel
theorem dl_566 : decode code 566 = .ok (.iadd, 1) := by decide +kernel
theorem dl_567 : decode code 567 = .ok (.iaload, 1) := by decide +kernel
theorem dl_568 : decode code 568 = .ok (.aload_n 0, 1) := by decide +kernel
theorem dl_569 : decode code 569 = .ok (.iload_n 3, 1) := by decide +kernel
theorem dl_570 : decode code 570 = .ok (.iconst 2, 1) := by decide +kernel
theorem dl_571 : decode code 571 = .ok (.iadd, 1) := by decide +kernel
theorem dl_572 : decode code 572 = .ok (.iaload, 1) := by decide +kernel
theorem dl_573 : decode code 573 = .ok (.aload_n 0, 1) := by decide +kernel
theorem dl_574 : decode code 574 = .ok (.iload_n 3, 1) := by decide +kernel
theorem dl_575 : decode code 575 = .ok (.iconst 3, 1) := by decide +kernel
theorem dl_576 : decode code 576 = .ok (.iadd, 1) := by decide +kernel
theorem dl_577 : decode code 577 = .ok (.iaload, 1) := by decide +kernel
theorem dl_578 : decode code 578 = .ok (.invokevirtual 73, 3) := by decide +kernel
theorem dl_581 : decode code 581 = .ok (.if_icmp .eq 402, 3) := by decide +kernel
theorem dl_584 : decode code 584 = .ok (.iconst 0, 1) := by decide +kernel
theorem dl_585 : decode code 585 = .ok (.ireturn, 1) := by decide +kernel
theorem dl_586 : decode code 586 = .ok (.aload_n 1, 1) := by decide +kernel
theorem dl_587 : decode code 587 = .ok (.aload_n 0, 1) := by decide +kernel
theorem dl_588 : decode code 588 = .ok (.iload_n 3, 1) := by decide +kernel
theorem dl_589 : decode code 589 = .ok (.iconst 1, 1) := by decide +kernel
theorem dl_590 : decode code 590 = .ok (.iadd, 1) := by decide +kernel
theorem dl_591 : decode code 591 = .ok (.iaload, 1) := by decide +kernel
theorem dl_592 : decode code 592 = .ok (.invokevirtual 74, 3) := by decide +kernel
theorem dl_595 : decode code 595 = .ok (.aload_n 2, 1) := by decide +kernel
theorem dl_596 : decode code 596 = .ok (.aload_n 0, 1) := by decide +kernel
theorem dl_597 : decode code 597 = .ok (.iload_n 3, 1) := by decide +kernel
theorem dl_598 : decode code 598 = .ok (.iconst 1, 1) := by decide +kernel
theorem dl_599 : decode code 599 = .ok (.iadd, 1) := by decide +kernel
theorem dl_600 : decode code 600 = .ok (.iaload, 1) := by decide +kernel
theorem dl_601 : decode code 601 = .ok (.invokevirtual 77, 3) := by decide +kernel
theorem dl_604 : decode code 604 = .ok (.if_icmp .eq 379, 3) := by decide +kernel
theorem dl_607 : decode code 607 = .ok (.iconst 0, 1) := by decide +kernel
theorem dl_608 : decode code 608 = .ok (.ireturn, 1) := by decide +kernel
theorem dl_609 : decode code 609 = .ok (.aload_n 1, 1) := by decide +kernel
theorem dl_610 : decode code 610 = .ok (.invokevirtual 78, 3) := by decide +kernel
theorem dl_613 : decode code 613 = .ok (.aload_n 2, 1) := by decide +kernel
theorem dl_614 : decode code 614 = .ok (.invokevirtual 81, 3) := by decide +kernel
theorem dl_617 : decode code 617 = .ok (.if_icmp .eq 366, 3) := by decide +kernel
theorem dl_620 : decode code 620 = .ok (.iconst 0, 1) := by decide +kernel
theorem dl_621 : decode code 621 = .ok (.ireturn, 1) := by decide +kernel
theorem dl_622 : decode code 622 = .ok (.aload_n 1, 1) := by decide +kernel
theorem dl_623 : decode code 623 = .ok (.aload_n 0, 1) := by decide +kernel
theorem dl_624 : decode code 624 = .ok (.iload_n 3, 1) := by decide +kernel
theorem dl_625 : decode code 625 = .ok (.iconst 1, 1) := by decide +kernel
theorem dl_626 : decode code 626 = .ok (.iadd, 1) := by decide +kernel
theorem dl_627 : decode code 627 = .ok (.iaload, 1) := by decide +kernel
theorem dl_628 : decode code 628 = .ok (.invokevirtual 82, 3) := by decide +kernel
theorem dl_631 : decode code 631 = .ok (.aload_n 2, 1) := by decide +kernel
theorem dl_632 : decode code 632 = .ok (.aload_n 0, 1) := by decide +kernel
theorem dl_633 : decode code 633 = .ok (.iload_n 3, 1) := by decide +kernel
theorem dl_634 : decode code 634 = .ok (.iconst 1, 1) := by decide +kernel
theorem dl_635 : decode code 635 = .ok (.iadd, 1) := by decide +kernel
theorem dl_636 : decode code 636 = .ok (.iaload, 1) := by decide +kernel
theorem dl_637 : decode code 637 = .ok (.invokevirtual 85, 3) := by decide +kernel
theorem dl_640 : decode code 640 = .ok (.if_icmp .eq 343, 3) := by decide +kernel
theorem dl_643 : decode code 643 = .ok (.iconst 0, 1) := by decide +kernel
theorem dl_644 : decode code 644 = .ok (.ireturn, 1) := by decide +kernel
theorem dl_645 : decode code 645 = .ok (.aload_n 1, 1) := by decide +kernel
theorem dl_646 : decode code 646 = .ok (.aload_n 0, 1) := by decide +kernel
theorem dl_647 : decode code 647 = .ok (.iload_n 3, 1) := by decide +kernel
theorem dl_648 : decode code 648 = .ok (.iconst 1, 1) := by decide +kernel
theorem dl_649 : decode code 649 = .ok (.iadd, 1) := by decide +kernel
theorem dl_650 : decode code 650 = .ok (.iaload, 1) := by decide +kernel
theorem dl_651 : decode code 651 = .ok (.aload_n 0, 1) := by decide +kernel
theorem dl_652 : decode code 652 = .ok (.iload_n 3, 1) := by decide +kernel
theorem dl_653 : decode code 653 = .ok (.iconst 2, 1) := by decide +kernel
theorem dl_654 : decode code 654 = .ok (.iadd, 1) := by decide +kernel
theorem dl_655 : decode code 655 = .ok (.iaload, 1) := by decide +kernel
theorem dl_656 : decode code 656 = .ok (.invokevirtual 86, 3) := by decide +kernel
theorem dl_659 : decode code 659 = .ok (.aload_n 2, 1) := by decide +kernel
theorem dl_660 : decode code 660 = .ok (.aload_n 0, 1) := by decide +kernel
theorem dl_661 : decode code 661 = .ok (.iload_n 3, 1) := by decide +kernel
theorem dl_662 : decode code 662 = .ok (.iconst 1, 1) := by decide +kernel
theorem dl_663 : decode code 663 = .ok (.iadd, 1) := by decide +kernel
theorem dl_664 : decode code 664 = .ok (.iaload, 1) := by decide +kernel
theorem dl_665 : decode code 665 = .ok (.aload_n 0, 1) := by decide +kernel
theorem dl_666 : decode code 666 = .ok (.iload_n 3, 1) := by decide +kernel
theorem dl_667 : decode code 667 = .ok (.iconst 2, 1) := by decide +kernel
theorem dl_668 : decode code 668 = .ok (.iadd, 1) := by decide +kernel
theorem dl_669 : decode code 669 = .ok (.iaload, 1) := by decide +kernel
theorem dl_670 : decode code 670 = .ok (.invokevirtual 89, 3) := by decide +kernel
theorem dl_673 : decode code 673 = .ok (.if_icmp .eq 310, 3) := by decide +kernel
theorem dl_676 : decode code 676 = .ok (.iconst 0, 1) := by decide +kernel
theorem dl_677 : decode code 677 = .ok (.ireturn, 1) := by decide +kernel
theorem dl_678 : decode code 678 = .ok (.aload_n 1, 1) := by decide +kernel
theorem dl_679 : decode code 679 = .ok (.aload_n 0, 1) := by decide +kernel
theorem dl_680 : decode code 680 = .ok (.iload_n 3, 1) := by decide +kernel
theorem dl_681 : decode code 681 = .ok (.iconst 1, 1) := by decide +kernel
theorem dl_682 : decode code 682 = .ok (.iadd, 1) := by decide +kernel
theorem dl_683 : decode code 683 = .ok (.iaload, 1) := by decide +kernel
theorem dl_684 : decode code 684 = .ok (.invokevirtual 90, 3) := by decide +kernel
theorem dl_687 : decode code 687 = .ok (.aload_n 2, 1) := by decide +kernel
theorem dl_688 : decode code 688 = .ok (.aload_n 0, 1) := by decide +kernel
theorem dl_689 : decode code 689 = .ok (.iload_n 3, 1) := by decide +kernel
theorem dl_690 : decode code 690 = .ok (.iconst 1, 1) := by decide +kernel
theorem dl_691 : decode code 691 = .ok (.iadd, 1) := by decide +kernel
