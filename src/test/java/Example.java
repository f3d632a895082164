/** What a line prints stands behind it, as far as the colon. */
public final class Example {
    public static void main(String[] args) {
        GrantRing ring = new GrantRing();
        int front = ring.create();
        int back = ring.create();
        System.out.println(front + " and " + back);             // 0 and 1

        // The front grants a page to the back, which may store to it as soon as it has mapped the entry.
        int page = ring.alloc(front);
        int ref = ring.grant(front, back, page, 1);
        System.out.println(ring.store(back, page, 2, -1));      // -3: NOT_YOURS, for the entry is not mapped yet
        int handle = ring.map(back, front, ref, true);
        System.out.println(ring.store(back, page, 2, -1));      // 0: done
        System.out.println(ring.load(front, page, 2));          // 4294967295: a word is loaded without sign
        System.out.println(ring.end(front, ref));               // -4: BUSY, for the back still has it mapped
        System.out.println(ring.unmap(back, handle));           // 0: done
        System.out.println(ring.end(front, ref));               // 0: done

        // The back asks for a page by an entry of the kind TRANSFER, and the front gives it one.
        int wanted = ring.grant(back, front, 0, 2);
        System.out.println(ring.give(front, page, back, wanted)); // 0: done
        System.out.println(ring.look(1, page, 0));              // 1: the back owns the page now

        // The back wakes the front.
        int frontPort = ring.open(front, back);
        int backPort = ring.bind(back, front, frontPort);
        System.out.println(ring.send(back, backPort));          // 1: the front's port became PENDING
        System.out.println(ring.send(back, backPort));          // 0: it was PENDING already
        System.out.println(ring.next(front));                   // 0: the front's port, PENDING no more
        System.out.println(ring.next(front));                   // -11: IDLE, for no other port is PENDING

        // The front writes 77 to sector 3 of a block device that the back runs, and reads it again.
        int disk = ring.attach(front, back);
        System.out.println(ring.submit(disk, true, 3, 77));     // 0: the number of the request
        System.out.println(ring.submit(disk, false, 3, 0));     // 1: the number of the next one
        System.out.println(ring.serve(disk));                   // 0: the status, all went well
        System.out.println(ring.serve(disk));                   // 0: the status, all went well
        System.out.println(ring.serve(disk));                   // -11: IDLE, for there is no request any more
        System.out.println(ring.reap(disk));                    // 77: what was written
        System.out.println(ring.reap(disk));                    // 77: what was read
        System.out.println(ring.look(5, disk, 3));              // 77: sector 3

        // The front forges the count of requests in the ring page, which the back has at its handle 0.
        int ringPage = (int) ring.look(3, back, 0);
        System.out.println(ring.store(front, ringPage, 0, 9));  // 0: done, for the page is its own
        System.out.println(ring.serve(disk));                   // -12: BAD_RING, for 7 requests can not be waiting

        // When the front dies, the device goes with it; the ring page stays until the back unmaps it.
        System.out.println(ring.destroy(front));                // 0: done
        System.out.println(ring.submit(disk, false, 3, 0));     // -9: NO_DEVICE
        System.out.println(ring.look(0, front, 0));             // 2: DYING
        System.out.println(ring.unmap(back, 0));                // 0: done
        System.out.println(ring.look(0, front, 0));             // 0: NONE
    }
}
