/** The example of README.md. */
public final class Example {
    public static void main(String[] args) {
        GrinCoder coder = new GrinCoder();
        coder.value(6);                         // an object is open
        coder.type(0x6E616D65L, 4);             // the bytes of "name" are typed
        coder.name();                           // and name the next part
        coder.integer(-17);                     // its value
        coder.type(0x6E616D65L, 4);
        coder.name();                           // names may be the same
        coder.type(0xC3A9L, 2);                 // UTF-8
        coder.value(3);                         // a text
        coder.end();

        int n = coder.write(3);                 // names and texts are told again by where they were
        for (int k = 0; k < n; k++) {
            System.out.printf("%02X ", coder.written(k));
        }
        System.out.println();

        coder.loop();                           // what was written is to be read
        System.out.println("fault " + coder.read() + ", items " + coder.count(0));
        for (int i = 0; i < coder.count(0); i++) {
            System.out.println("item " + i + ": kind " + coder.item(i, 0) + ", bytes " + coder.item(i, 1)
                + ", within " + coder.item(i, 2) + ", number " + coder.number(i));
        }

        coder.load(0x3A290A00F800L, 6);         // bytes that are wrong: 00 is no value
        System.out.println("fault " + coder.read() + " at byte " + coder.place());
    }
}
