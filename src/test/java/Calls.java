/** Something that answers calls of the face by name: a number as a text, or throws.Name. */
interface Calls {
    String call(String name, int... args);
}
